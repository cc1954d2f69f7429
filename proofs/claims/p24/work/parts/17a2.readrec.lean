section
variable {p : Program} {l : Launch} {e : Env} {s : State} {m : MethodId} {args : Array Value} {below : List Frame} {meth : Method} {c : Code} {D : va_G} {cy : Nat → ClassId} {B : Nat} {H0 : Heap} {Z : Nat → Nat}
/-! ## TideLots$Reader.comparedSum(I)Z -/
theorem dX6_comparedSum_0 : decode cX6_comparedSum 0 = .ok (.aload_n 0, 1) := by decide +kernel
theorem dX6_comparedSum_1 : decode cX6_comparedSum 1 = .ok (.invokevirtual 43, 3) := by decide +kernel
theorem dX6_comparedSum_4 : decode cX6_comparedSum 4 = .ok (.astore_n 2, 1) := by decide +kernel
theorem dX6_comparedSum_5 : decode cX6_comparedSum 5 = .ok (.getstatic 53, 3) := by decide +kernel
theorem dX6_comparedSum_8 : decode cX6_comparedSum 8 = .ok (.aload_n 2, 1) := by decide +kernel
theorem dX6_comparedSum_9 : decode cX6_comparedSum 9 = .ok (.invokevirtual 59, 3) := by decide +kernel
theorem dX6_comparedSum_12 : decode cX6_comparedSum 12 = .ok (.iaload, 1) := by decide +kernel
theorem dX6_comparedSum_13 : decode cX6_comparedSum 13 = .ok (.tableswitch 67 8 12 #[35, 35, 35, 35, 35], 35) := by decide +kernel
theorem dX6_comparedSum_48 : decode cX6_comparedSum 48 = .ok (.aload_n 0, 1) := by decide +kernel
theorem dX6_comparedSum_49 : decode cX6_comparedSum 49 = .ok (.aload_n 2, 1) := by decide +kernel
theorem dX6_comparedSum_50 : decode cX6_comparedSum 50 = .ok (.invokevirtual 79, 3) := by decide +kernel
theorem dX6_comparedSum_53 : decode cX6_comparedSum 53 = .ok (.ifCond .eq 11, 3) := by decide +kernel
theorem dX6_comparedSum_56 : decode cX6_comparedSum 56 = .ok (.aload_n 0, 1) := by decide +kernel
theorem dX6_comparedSum_57 : decode cX6_comparedSum 57 = .ok (.iload_n 1, 1) := by decide +kernel
theorem dX6_comparedSum_58 : decode cX6_comparedSum 58 = .ok (.invokevirtual 244, 3) := by decide +kernel
theorem dX6_comparedSum_61 : decode cX6_comparedSum 61 = .ok (.ifCond .ne 5, 3) := by decide +kernel
theorem dX6_comparedSum_64 : decode cX6_comparedSum 64 = .ok (.iconst 0, 1) := by decide +kernel
theorem dX6_comparedSum_65 : decode cX6_comparedSum 65 = .ok (.ireturn, 1) := by decide +kernel
theorem dX6_comparedSum_66 : decode cX6_comparedSum 66 = .ok (.aload_n 0, 1) := by decide +kernel
theorem dX6_comparedSum_67 : decode cX6_comparedSum 67 = .ok (.getfield 34, 3) := by decide +kernel
theorem dX6_comparedSum_70 : decode cX6_comparedSum 70 = .ok (.getfield 193, 3) := by decide +kernel
theorem dX6_comparedSum_73 : decode cX6_comparedSum 73 = .ok (.aload_n 2, 1) := by decide +kernel
theorem dX6_comparedSum_74 : decode cX6_comparedSum 74 = .ok (.iconst 0, 1) := by decide +kernel
theorem dX6_comparedSum_75 : decode cX6_comparedSum 75 = .ok (.invokevirtual 273, 3) := by decide +kernel
theorem dX6_comparedSum_78 : decode cX6_comparedSum 78 = .ok (.iconst 1, 1) := by decide +kernel
theorem dX6_comparedSum_79 : decode cX6_comparedSum 79 = .ok (.ireturn, 1) := by decide +kernel
theorem dX6_comparedSum_80 : decode cX6_comparedSum 80 = .ok (.iconst 0, 1) := by decide +kernel
theorem dX6_comparedSum_81 : decode cX6_comparedSum 81 = .ok (.ireturn, 1) := by decide +kernel
set_option maxRecDepth 20000 in
theorem ggX6_comparedSum_X6_take : GoodIn wsX6_comparedSum wsX6_take := goodIn_r _ [22, 11, 9, 10, 80, 81, 82, 83, 84, 85, 86, 87, 88, 106, 107, 108, 109, 110, 111] (by decide +kernel) (by decide +kernel)
set_option maxRecDepth 20000 in
theorem gX6_comparedSum_X6_take : GoodIn wsX6_comparedSum (wsV RX6 79 RX6 yX6_take wsX6_take) := goodIn_app (goodIn_of _ (by decide +kernel)) ggX6_comparedSum_X6_take
set_option maxRecDepth 20000 in
theorem ggX6_comparedSum_X6_sum : GoodIn wsX6_comparedSum wsX6_sum := goodIn_2 24 (goodIn_r _ [26, 27, 28, 2, 3, 29, 30, 31, 7, 4, 5, 6, 8, 9, 10, 11, 19, 20, 21, 22, 32, 33, 34, 35] (by decide +kernel) (by decide +kernel)) (goodIn_2 24 (goodIn_r _ [36, 37, 38, 39, 40, 41, 42, 43, 44, 45, 46, 1, 47, 48, 49, 50, 51, 52, 53, 54, 12, 13, 14, 15] (by decide +kernel) (by decide +kernel)) (goodIn_2 24 (goodIn_r _ [16, 17, 18, 55, 56, 57, 58, 59, 60, 61, 62, 63, 64, 65, 66, 67, 68, 69, 70, 71, 72, 73, 74, 75] (by decide +kernel) (by decide +kernel)) (goodIn_2 24 (goodIn_r _ [76, 77, 78, 79, 23, 24, 25, 80, 81, 82, 83, 84, 85, 86, 87, 88, 89, 90, 91, 92, 93, 94, 95, 96] (by decide +kernel) (by decide +kernel)) (goodIn_r _ [97, 98, 99, 100, 101, 102, 103, 104, 105, 106, 107, 108, 109, 110, 111, 112, 113, 114, 115, 116, 117] (by decide +kernel) (by decide +kernel)))))
set_option maxRecDepth 20000 in
theorem gX6_comparedSum_X6_sum : GoodIn wsX6_comparedSum (wsV RX6 244 RX6 yX6_sum wsX6_sum) := goodIn_app (goodIn_of _ (by decide +kernel)) ggX6_comparedSum_X6_sum
set_option maxRecDepth 20000 in
theorem ggX6_comparedSum_X9_add : GoodIn wsX6_comparedSum wsX9_add := goodIn_r _ [36, 37, 38, 39, 112, 113, 114, 115] (by decide +kernel) (by decide +kernel)
set_option maxRecDepth 20000 in
theorem gX6_comparedSum_X9_add : GoodIn wsX6_comparedSum (wsV RX6 273 RX9 yX9_add wsX9_add) := goodIn_app (goodIn_of _ (by decide +kernel)) ggX6_comparedSum_X9_add
set_option maxRecDepth 20000 in
theorem ggX6_comparedSum_X6_sign : GoodIn wsX6_comparedSum wsX6_sign := goodIn_r _ [8, 9, 10, 11, 80, 81, 82, 83, 84, 85, 86, 87, 88, 106, 107, 108, 109, 110, 111] (by decide +kernel) (by decide +kernel)
set_option maxRecDepth 20000 in
theorem gX6_comparedSum_X6_sign : GoodIn wsX6_comparedSum (wsV RX6 43 RX6 yX6_sign wsX6_sign) := goodIn_app (goodIn_of _ (by decide +kernel)) ggX6_comparedSum_X6_sign
set_option maxRecDepth 20000 in
theorem ggX6_comparedSum_Jx29ce0_ordinal_8abf5 : GoodIn wsX6_comparedSum wsJx29ce0_ordinal_8abf5 := goodIn_r _ [17, 18] (by decide +kernel) (by decide +kernel)
set_option maxRecDepth 20000 in
theorem gX6_comparedSum_Jx29ce0_ordinal_8abf5_u59X8 : GoodIn wsX6_comparedSum (va_wsU RX6 59 RX8 "java/lang/Enum" ⟨"TideLots$Sign", "ordinal", "()I"⟩ yJx29ce0_ordinal_8abf5 wsJx29ce0_ordinal_8abf5) := goodIn_app (goodIn_of _ (by decide +kernel)) ggX6_comparedSum_Jx29ce0_ordinal_8abf5
theorem k_X6_comparedSum_f34 : Cond.fieldLink RX6 34 "TideLots$Reader" "built" "LTideLots$Shore;" ∈ wsX6_comparedSum := by decide +kernel
theorem i_X6_comparedSum_X6 : ∀ w ∈ u_ws RX6 TX6 9, w ∈ wsX6_comparedSum := by decide +kernel
theorem k_X6_comparedSum_f193 : Cond.fieldLink RX6 193 "TideLots$Shore" "sums" "LTideLots$Sums;" ∈ wsX6_comparedSum := by decide +kernel
theorem i_X6_comparedSum_X7 : ∀ w ∈ u_ws RX7 TX7 17, w ∈ wsX6_comparedSum := by decide +kernel
theorem k_X6_comparedSum_f53 : Cond.fieldLink RX6 53 "TideLots$1" "$SwitchMap$TideLots$Sign" "[I" ∈ wsX6_comparedSum := by decide +kernel
noncomputable def b_X6_comparedSum_64 (Z : Nat → Nat) (F : Nat → gMem → Nat → Int32 → Option (Int32 × gMem)) (M : gMem)  : Option (Int32 × gMem) :=
  some ((0 : Int32), M)
noncomputable def b_X6_comparedSum_48 (Z : Nat → Nat) (F : Nat → gMem → Nat → Int32 → Option (Int32 × gMem)) (M : gMem) (x0 : Nat) (x1 : Int32) (x2 : Option Nat) : Option (Int32 × gMem) :=
  ck (mT M x0 = 6) <| bd (f_X6_take M x0 x2) fun r1 M1 => (if r1 = 0 then b_X6_comparedSum_64 Z F M1  else ck (mT M1 x0 = 6) <| bd (F 4 M1 x0 x1) fun r3 M3 => (if r3 = 0 then b_X6_comparedSum_64 Z F M3  else ck (mT M3 x0 = 6) <| dr ((mR M3 x0 2)) fun a6 => ck (mT M3 a6 = 7) <| dr ((mR M3 a6 10)) fun a9 => ck (mT M3 a9 = 8) <| bd (f_X9_add Z M3 a9 x2 ((0 : Int32))) fun _ M8 => some ((1 : Int32), M8)))
noncomputable def b_X6_comparedSum_0 (Z : Nat → Nat) (F : Nat → gMem → Nat → Int32 → Option (Int32 × gMem)) (M : gMem) (x0 : Nat) (x1 : Int32) : Option (Int32 × gMem) :=
  ck (mT M x0 = 6) <| bd (f_X6_sign M x0) fun r11 M11 => dr (ordZ Z r11) fun o13 => (if (gSw o13) = (8 : Int32) then b_X6_comparedSum_48 Z F M11 x0 x1 r11 else (if (gSw o13) = (9 : Int32) then b_X6_comparedSum_48 Z F M11 x0 x1 r11 else (if (gSw o13) = (10 : Int32) then b_X6_comparedSum_48 Z F M11 x0 x1 r11 else (if (gSw o13) = (11 : Int32) then b_X6_comparedSum_48 Z F M11 x0 x1 r11 else (if (gSw o13) = (12 : Int32) then b_X6_comparedSum_48 Z F M11 x0 x1 r11 else some ((0 : Int32), M11))))))
noncomputable def fr_X6_comparedSum (Z : Nat → Nat) (F : Nat → gMem → Nat → Int32 → Option (Int32 × gMem)) (M : gMem) (x0 : Nat) (x1 : Int32) : Option (Int32 × gMem) :=
  b_X6_comparedSum_0 Z F M x0 x1
set_option maxHeartbeats 4000000 in
set_option maxRecDepth 100000 in
theorem t_X6_comparedSum_64 (X : gX p s m args meth c D cy B (gSt Z B H0) RX6 cX6_comparedSum wsX6_comparedSum 3) (hr : meth.sig.returnType = (some .boolean)) {n0 : Nat} {F : Nat → gMem → Nat → Int32 → Option (Int32 × gMem)} (hF : hX6R l D cy B H0 Z n0 F) {Q : State → Prop} : ∀ (M : gMem)  (z : Int32 × gMem), b_X6_comparedSum_64 Z F M  = some z → (fun (r : Int32 × gMem) => Q = gMQ below D cy B H0 args s 0 0 (some (vI r.1)) r.2) z → gGo p l e (rX6R (n0 + 1)) s m args below meth c D cy B H0 3 0 0 Q 64 [] [] M := by
  intro M  z hf hK
  unfold b_X6_comparedSum_64 at hf
  refine g_iconst (v := (0 : Int32)) X dX6_comparedSum_64 (by decide) ?_
  cases hf
  refine g_eqQ hK ?_
  exact g_zret X hr (gnb (Or.inl rfl)) dX6_comparedSum_65
set_option maxHeartbeats 4000000 in
set_option maxRecDepth 100000 in
theorem t_X6_comparedSum_48 (X : gX p s m args meth c D cy B (gSt Z B H0) RX6 cX6_comparedSum wsX6_comparedSum 3) (hr : meth.sig.returnType = (some .boolean)) {n0 : Nat} {F : Nat → gMem → Nat → Int32 → Option (Int32 × gMem)} (hF : hX6R l D cy B H0 Z n0 F) {Q : State → Prop} : ∀ (M : gMem) (x0 : Nat) (x1 : Int32) (x2 : Option Nat) (z : Int32 × gMem), b_X6_comparedSum_48 Z F M x0 x1 x2 = some z → (fun (r : Int32 × gMem) => Q = gMQ below D cy B H0 args s 0 0 (some (vI r.1)) r.2) z → gGo p l e (rX6R (n0 + 1)) s m args below meth c D cy B H0 3 0 0 Q 48 [(0, vR (some x0)), (1, vI x1), (2, vR x2)] [] M := by
  intro M x0 x1 x2 z hf hK
  unfold b_X6_comparedSum_48 at hf
  refine g_aload_n X dX6_comparedSum_48 rfl rfl ?_
  refine g_aload_n X dX6_comparedSum_49 rfl rfl ?_
  obtain ⟨hT2, hf⟩ := ck_e hf
  obtain ⟨r1, M1, hq1, hf⟩ := bd_e hf
  refine g_callV (ci := 5) (b := x0) (As := [vR x2]) (st := []) (v := some (vI r1)) (M1 := M1) X (m_X6_take l hq1) (cwV 1 X.2.2.1 gX6_comparedSum_X6_take rfl rfl rfl (by decide +kernel) ⟨rX6R_f (Nat.le_of_ble_eq_true rfl), rX6R_l (Nat.le_of_ble_eq_true rfl)⟩) rfl rfl rfl hT2 (by decide) rfl (Nat.le_of_ble_eq_true rfl) dX6_comparedSum_50 ⟨Nat.zero_le _, Nat.zero_le _⟩ ?_
  refine g_if_eq (tgt := 64) X dX6_comparedSum_53 (by decide) (fun hc => ?_) (fun hc => ?_)
  · have hf := ife_t hc hf
    refine g_sub (lvsub_of _ _ [] rfl) ?_
    exact t_X6_comparedSum_64 X hr hF _  _ hf hK
  · have hf := ife_f hc hf
    refine g_aload_n X dX6_comparedSum_56 rfl rfl ?_
    refine g_iload_n X dX6_comparedSum_57 rfl rfl ?_
    obtain ⟨hT4, hf⟩ := ck_e hf
    obtain ⟨r3, M3, hq3, hf⟩ := bd_e hf
    refine g_callV (ci := 5) (b := x0) (As := [vI x1]) (st := []) (v := some (vI r3)) (M1 := M3) X (hF.2.2.2.2.1 _ _ _ _ _ hq3) (cwV 1 X.2.2.1 gX6_comparedSum_X6_sum rfl rfl rfl (by decide +kernel) ⟨rX6R_rf, rX6R_rl (Nat.le_of_ble_eq_true rfl)⟩) rfl rfl rfl hT4 (by decide) rfl (Nat.le_of_ble_eq_true rfl) dX6_comparedSum_58 ⟨Nat.zero_le _, Nat.zero_le _⟩ ?_
    refine g_if_ne (tgt := 66) X dX6_comparedSum_61 (by decide) (fun hc => ?_) (fun hc => ?_)
    · have hf := ife_f hc hf
      refine g_aload_n X dX6_comparedSum_66 rfl rfl ?_
      obtain ⟨hT5, hf⟩ := ck_e hf
      refine g_get (ci := 5) (v := vR (mR M3 x0 2)) 2 X cdX6 i_X6_comparedSum_X6 (by decide) k_X6_comparedSum_f34 rfl dX6_comparedSum_67 rfl hT5 rfl ?_
      obtain ⟨a6, ha6, hf⟩ := dr_e hf
      obtain ⟨hT7, hf⟩ := ck_e hf
      refine g_get (ci := 6) (v := vR (mR M3 a6 10)) 10 X cdX7 i_X6_comparedSum_X7 (by decide) k_X6_comparedSum_f193 rfl dX6_comparedSum_70 ha6 hT7 rfl ?_
      refine g_aload_n X dX6_comparedSum_73 rfl rfl ?_
      refine g_iconst (v := (0 : Int32)) X dX6_comparedSum_74 (by decide) ?_
      obtain ⟨a9, ha9, hf⟩ := dr_e hf
      obtain ⟨hT10, hf⟩ := ck_e hf
      obtain ⟨r8, M8, hq8, hf⟩ := bd_e hf
      refine g_callV (ci := 7) (b := a9) (As := [vR x2, vI (0 : Int32)]) (st := []) (v := none) (M1 := M8) X (m_X9_add l hq8) (cwV 2 X.2.2.1 gX6_comparedSum_X9_add rfl rfl rfl (by decide +kernel) ⟨rX6R_f (Nat.le_of_ble_eq_true rfl), rX6R_l (Nat.le_of_ble_eq_true rfl)⟩) rfl rfl ha9 hT10 (by decide) rfl (Nat.le_of_ble_eq_true rfl) dX6_comparedSum_75 ⟨Nat.zero_le _, Nat.zero_le _⟩ ?_
      refine g_iconst (v := (1 : Int32)) X dX6_comparedSum_78 (by decide) ?_
      cases hf
      refine g_eqQ hK ?_
      exact g_zret X hr (gnb (Or.inr rfl)) dX6_comparedSum_79
    · have hf := ife_t hc hf
      refine g_sub (lvsub_of _ _ [] rfl) ?_
      exact t_X6_comparedSum_64 X hr hF _  _ hf hK
set_option maxHeartbeats 4000000 in
set_option maxRecDepth 100000 in
theorem t_X6_comparedSum_0 (X : gX p s m args meth c D cy B (gSt Z B H0) RX6 cX6_comparedSum wsX6_comparedSum 3) (hr : meth.sig.returnType = (some .boolean)) {n0 : Nat} {F : Nat → gMem → Nat → Int32 → Option (Int32 × gMem)} (hF : hX6R l D cy B H0 Z n0 F) {Q : State → Prop} : ∀ (M : gMem) (x0 : Nat) (x1 : Int32) (z : Int32 × gMem), b_X6_comparedSum_0 Z F M x0 x1 = some z → (fun (r : Int32 × gMem) => Q = gMQ below D cy B H0 args s 0 0 (some (vI r.1)) r.2) z → gGo p l e (rX6R (n0 + 1)) s m args below meth c D cy B H0 3 0 0 Q 0 [(0, vR (some x0)), (1, vI x1)] [] M := by
  intro M x0 x1 z hf hK
  unfold b_X6_comparedSum_0 at hf
  refine g_aload_n X dX6_comparedSum_0 rfl rfl ?_
  obtain ⟨hT12, hf⟩ := ck_e hf
  obtain ⟨r11, M11, hq11, hf⟩ := bd_e hf
  refine g_callV (ci := 5) (b := x0) (As := []) (st := []) (v := some (vR r11)) (M1 := M11) X (m_X6_sign l hq11) (cwV 0 X.2.2.1 gX6_comparedSum_X6_sign rfl rfl rfl (by decide +kernel) ⟨rX6R_f (Nat.le_of_ble_eq_true rfl), rX6R_l (Nat.le_of_ble_eq_true rfl)⟩) rfl rfl rfl hT12 (by decide) rfl (Nat.le_of_ble_eq_true rfl) dX6_comparedSum_1 ⟨Nat.zero_le _, Nat.zero_le _⟩ ?_
  refine g_astore_n (lv' := [(2, vR r11), (0, vR (some x0)), (1, vI x1)]) X dX6_comparedSum_4 rfl (by decide) rfl ?_
  refine g_gets (w := vR (some (Z 46))) X (gSt_SW X) k_X6_comparedSum_f53 rfl dX6_comparedSum_5 ?_
  refine g_aload_n X dX6_comparedSum_8 rfl rfl ?_
  obtain ⟨o13, ho13, hf⟩ := dr_e hf
  refine g_callU (C := RX8) (owner := "java/lang/Enum") (As := []) (st := [vR (some (Z 46))]) (v := some (vI (nI o13))) X (m_ordinal l (ordZ_lt ho13)) (va_cwU 0 X.2.2.1 gX6_comparedSum_Jx29ce0_ordinal_8abf5_u59X8 rfl rfl rfl (by decide +kernel) (by decide +kernel) ⟨rX6R_f (Nat.le_of_ble_eq_true rfl), rX6R_l (Nat.le_of_ble_eq_true rfl)⟩) rfl rfl (ordZ_eq ho13) (fun H hW => gO_recv (gSt_O X (ordZ_lt ho13)) hW) (Nat.le_of_ble_eq_true rfl) dX6_comparedSum_9 ⟨Nat.zero_le _, Nat.zero_le _⟩ ?_
  refine g_ialdT (w := gSw o13) X (gSt_SWt X) rfl (gord_nn (ordZ_lt ho13)) (gord_lt (ordZ_lt ho13)) (gord_sw (ordZ_lt ho13)) dX6_comparedSum_12 ?_
  by_cases hs14 : (gSw o13) = (8 : Int32)
  · have hf := ife_t hs14 hf
    refine g_tabin (tgt := 48) X dX6_comparedSum_13 hs14 (by decide) (by decide) rfl (by decide) ?_
    refine g_sub (lvsub_of _ _ [1, 2, 0] rfl) ?_
    exact t_X6_comparedSum_48 X hr hF _ _ _ _ _ hf hK
  · have hf := ife_f hs14 hf
    by_cases hs15 : (gSw o13) = (9 : Int32)
    · have hf := ife_t hs15 hf
      refine g_tabin (tgt := 48) X dX6_comparedSum_13 hs15 (by decide) (by decide) rfl (by decide) ?_
      refine g_sub (lvsub_of _ _ [1, 2, 0] rfl) ?_
      exact t_X6_comparedSum_48 X hr hF _ _ _ _ _ hf hK
    · have hf := ife_f hs15 hf
      by_cases hs16 : (gSw o13) = (10 : Int32)
      · have hf := ife_t hs16 hf
        refine g_tabin (tgt := 48) X dX6_comparedSum_13 hs16 (by decide) (by decide) rfl (by decide) ?_
        refine g_sub (lvsub_of _ _ [1, 2, 0] rfl) ?_
        exact t_X6_comparedSum_48 X hr hF _ _ _ _ _ hf hK
      · have hf := ife_f hs16 hf
        by_cases hs17 : (gSw o13) = (11 : Int32)
        · have hf := ife_t hs17 hf
          refine g_tabin (tgt := 48) X dX6_comparedSum_13 hs17 (by decide) (by decide) rfl (by decide) ?_
          refine g_sub (lvsub_of _ _ [1, 2, 0] rfl) ?_
          exact t_X6_comparedSum_48 X hr hF _ _ _ _ _ hf hK
        · have hf := ife_f hs17 hf
          by_cases hs18 : (gSw o13) = (12 : Int32)
          · have hf := ife_t hs18 hf
            refine g_tabin (tgt := 48) X dX6_comparedSum_13 hs18 (by decide) (by decide) rfl (by decide) ?_
            refine g_sub (lvsub_of _ _ [1, 2, 0] rfl) ?_
            exact t_X6_comparedSum_48 X hr hF _ _ _ _ _ hf hK
          · have hf := ife_f hs18 hf
            refine g_tabout (tgt := 80) X dX6_comparedSum_13 (gtab_out 5 (8) (by decide) (by decide) (fun i hi => match i, hi with | 0, _ => fun e => hs14 (e.trans (by decide)) | 1, _ => fun e => hs15 (e.trans (by decide)) | 2, _ => fun e => hs16 (e.trans (by decide)) | 3, _ => fun e => hs17 (e.trans (by decide)) | 4, _ => fun e => hs18 (e.trans (by decide)) | i + 5, h => absurd h (by omega))) (by decide) ?_
            refine g_iconst (v := (0 : Int32)) X dX6_comparedSum_80 (by decide) ?_
            cases hf
            refine g_eqQ hK ?_
            exact g_zret X hr (gnb (Or.inl rfl)) dX6_comparedSum_81
set_option maxHeartbeats 4000000 in
set_option maxRecDepth 100000 in
theorem mr_X6_comparedSum (l : Launch) {D : va_G} {cy : Nat → ClassId} {B : Nat} {H0 : Heap} {Z : Nat → Nat} {M M1 : gMem} {n0 : Nat} {F : Nat → gMem → Nat → Int32 → Option (Int32 × gMem)} (hF : hX6R l D cy B H0 Z n0 F) {x0 : Nat} {x1 : Int32} {r : Int32} (hf : fr_X6_comparedSum Z F M x0 x1 = some (r, M1)) : Met l yX6_comparedSum wsX6_comparedSum (rX6R (n0 + 1)) (va_Pc (Value.ref x0 :: List.map gv [vI x1]) (gPre D cy B H0 (gSt Z B H0) M)) (gQ D cy B H0 (some (vI r)) M1) 0 0 (gA B) := by
  refine Met.ofW (cc := cX6_comparedSum) (maxL := 3) (ret := (some .boolean)) (by decide) rfl ?_
  intro p e s m args below meth c s₁ Bd hml hv
  obtain ⟨rfl, hW, hKK, hFs⟩ := hv
  have X : gX p s m _ meth c D cy B (gSt Z B H0) RX6 cX6_comparedSum wsX6_comparedSum 3 := ⟨Bd.exec, Bd.bytes, atoms_spec (ws := wsX6_comparedSum) Bd.pre, findClass_of_methodNamed Bd.named, hml, hKK, by rw [hW.1]; exact hW.2.1, Bd.notSynchronized, hFs⟩
  have hr := Bd.returns
  have hl := lv_entry ([.ref x0, .int x1]) (n := 3) (Nat.le_of_ble_eq_true rfl)
  show W p l e (rX6R (n0 + 1)) s m _ below meth c s.heap [] 0 0 _ (entryFrame m ([.ref x0, .int x1] : List Value).toArray 3)
  rw [lg_entry_eq]
  generalize (lg_sl ([.ref x0, .int x1]) ++ List.replicate (3 - (lg_sl ([.ref x0, .int x1])).length) Slot.unset).toArray = ls at hl ⊢
  have hl : lv_has ls 3 (List.map gq [(0, vR (some x0)), (1, vI x1)]) := hl
  exact t_X6_comparedSum_0 X hr hF _ _ _ _ hf rfl s.heap [] ls hW va_S.rf (lv_has_sub hl (lvsub_of _ _ [0, 1] rfl))
/-! ## TideLots$Reader.sum(I)Z -/
theorem dX6_sum_0 : decode cX6_sum 0 = .ok (.aload_n 0, 1) := by decide +kernel
theorem dX6_sum_1 : decode cX6_sum 1 = .ok (.iload_n 1, 1) := by decide +kernel
theorem dX6_sum_2 : decode cX6_sum 2 = .ok (.invokevirtual 297, 3) := by decide +kernel
theorem dX6_sum_5 : decode cX6_sum 5 = .ok (.ifCond .ne 5, 3) := by decide +kernel
theorem dX6_sum_8 : decode cX6_sum 8 = .ok (.iconst 0, 1) := by decide +kernel
theorem dX6_sum_9 : decode cX6_sum 9 = .ok (.ireturn, 1) := by decide +kernel
theorem dX6_sum_10 : decode cX6_sum 10 = .ok (.iconst 0, 1) := by decide +kernel
theorem dX6_sum_11 : decode cX6_sum 11 = .ok (.istore_n 2, 1) := by decide +kernel
theorem dX6_sum_12 : decode cX6_sum 12 = .ok (.iload_n 2, 1) := by decide +kernel
theorem dX6_sum_13 : decode cX6_sum 13 = .ok (.sipush 400, 3) := by decide +kernel
theorem dX6_sum_16 : decode cX6_sum 16 = .ok (.if_icmp .ge 64, 3) := by decide +kernel
theorem dX6_sum_19 : decode cX6_sum 19 = .ok (.aload_n 0, 1) := by decide +kernel
theorem dX6_sum_20 : decode cX6_sum 20 = .ok (.invokevirtual 43, 3) := by decide +kernel
theorem dX6_sum_23 : decode cX6_sum 23 = .ok (.getstatic 300, 3) := by decide +kernel
theorem dX6_sum_26 : decode cX6_sum 26 = .ok (.if_acmp .eq 13, 3) := by decide +kernel
theorem dX6_sum_29 : decode cX6_sum 29 = .ok (.aload_n 0, 1) := by decide +kernel
theorem dX6_sum_30 : decode cX6_sum 30 = .ok (.invokevirtual 43, 3) := by decide +kernel
theorem dX6_sum_33 : decode cX6_sum 33 = .ok (.getstatic 303, 3) := by decide +kernel
theorem dX6_sum_36 : decode cX6_sum 36 = .ok (.if_acmp .ne 44, 3) := by decide +kernel
theorem dX6_sum_39 : decode cX6_sum 39 = .ok (.aload_n 0, 1) := by decide +kernel
theorem dX6_sum_40 : decode cX6_sum 40 = .ok (.invokevirtual 43, 3) := by decide +kernel
theorem dX6_sum_43 : decode cX6_sum 43 = .ok (.astore_n 3, 1) := by decide +kernel
theorem dX6_sum_44 : decode cX6_sum 44 = .ok (.aload_n 0, 1) := by decide +kernel
theorem dX6_sum_45 : decode cX6_sum 45 = .ok (.aload_n 3, 1) := by decide +kernel
theorem dX6_sum_46 : decode cX6_sum 46 = .ok (.invokevirtual 79, 3) := by decide +kernel
theorem dX6_sum_49 : decode cX6_sum 49 = .ok (.ifCond .eq 11, 3) := by decide +kernel
theorem dX6_sum_52 : decode cX6_sum 52 = .ok (.aload_n 0, 1) := by decide +kernel
theorem dX6_sum_53 : decode cX6_sum 53 = .ok (.iload_n 1, 1) := by decide +kernel
theorem dX6_sum_54 : decode cX6_sum 54 = .ok (.invokevirtual 297, 3) := by decide +kernel
theorem dX6_sum_57 : decode cX6_sum 57 = .ok (.ifCond .ne 5, 3) := by decide +kernel
theorem dX6_sum_60 : decode cX6_sum 60 = .ok (.iconst 0, 1) := by decide +kernel
theorem dX6_sum_61 : decode cX6_sum 61 = .ok (.ireturn, 1) := by decide +kernel
theorem dX6_sum_62 : decode cX6_sum 62 = .ok (.aload_n 0, 1) := by decide +kernel
theorem dX6_sum_63 : decode cX6_sum 63 = .ok (.getfield 34, 3) := by decide +kernel
theorem dX6_sum_66 : decode cX6_sum 66 = .ok (.getfield 193, 3) := by decide +kernel
theorem dX6_sum_69 : decode cX6_sum 69 = .ok (.aload_n 3, 1) := by decide +kernel
theorem dX6_sum_70 : decode cX6_sum 70 = .ok (.iconst 0, 1) := by decide +kernel
theorem dX6_sum_71 : decode cX6_sum 71 = .ok (.invokevirtual 273, 3) := by decide +kernel
theorem dX6_sum_74 : decode cX6_sum 74 = .ok (.iinc 2 1, 3) := by decide +kernel
theorem dX6_sum_77 : decode cX6_sum 77 = .ok (.goto (-65), 3) := by decide +kernel
theorem dX6_sum_80 : decode cX6_sum 80 = .ok (.iconst 1, 1) := by decide +kernel
theorem dX6_sum_81 : decode cX6_sum 81 = .ok (.ireturn, 1) := by decide +kernel
set_option maxRecDepth 20000 in
theorem ggX6_sum_X6_sign : GoodIn wsX6_sum wsX6_sign := goodIn_r _ [12, 13, 14, 15, 79, 80, 81, 82, 83, 84, 85, 86, 87, 105, 106, 107, 108, 109, 110] (by decide +kernel) (by decide +kernel)
set_option maxRecDepth 20000 in
theorem gX6_sum_X6_sign : GoodIn wsX6_sum (wsV RX6 43 RX6 yX6_sign wsX6_sign) := goodIn_app (goodIn_of _ (by decide +kernel)) ggX6_sum_X6_sign
set_option maxRecDepth 20000 in
theorem ggX6_sum_X6_take : GoodIn wsX6_sum wsX6_take := goodIn_r _ [19, 15, 13, 14, 79, 80, 81, 82, 83, 84, 85, 86, 87, 105, 106, 107, 108, 109, 110] (by decide +kernel) (by decide +kernel)
set_option maxRecDepth 20000 in
theorem gX6_sum_X6_take : GoodIn wsX6_sum (wsV RX6 79 RX6 yX6_take wsX6_take) := goodIn_app (goodIn_of _ (by decide +kernel)) ggX6_sum_X6_take
set_option maxRecDepth 20000 in
theorem ggX6_sum_X6_product : GoodIn wsX6_sum wsX6_product := goodIn_2 24 (goodIn_r _ [28, 29, 30, 3, 4, 31, 32, 33, 8, 9, 10, 11, 12, 13, 14, 15, 16, 17, 18, 19, 20, 21, 22, 23] (by decide +kernel) (by decide +kernel)) (goodIn_2 24 (goodIn_r _ [24, 25, 26, 27, 0, 1, 2, 5, 6, 7, 34, 35, 36, 37, 38, 39, 40, 41, 42, 43, 44, 45, 46, 47] (by decide +kernel) (by decide +kernel)) (goodIn_2 24 (goodIn_r _ [48, 49, 50, 51, 52, 53, 54, 55, 56, 57, 58, 59, 60, 61, 62, 63, 64, 65, 66, 67, 68, 69, 70, 71] (by decide +kernel) (by decide +kernel)) (goodIn_2 24 (goodIn_r _ [72, 73, 74, 75, 76, 77, 78, 79, 80, 81, 82, 83, 84, 85, 86, 87, 88, 89, 90, 91, 92, 93, 94, 95] (by decide +kernel) (by decide +kernel)) (goodIn_r _ [96, 97, 98, 99, 100, 101, 102, 103, 104, 105, 106, 107, 108, 109, 110, 111, 112, 113, 114, 115, 116] (by decide +kernel) (by decide +kernel)))))
set_option maxRecDepth 20000 in
theorem gX6_sum_X6_product : GoodIn wsX6_sum (wsV RX6 297 RX6 yX6_product wsX6_product) := goodIn_app (goodIn_of _ (by decide +kernel)) ggX6_sum_X6_product
set_option maxRecDepth 20000 in
theorem ggX6_sum_X9_add : GoodIn wsX6_sum wsX9_add := goodIn_r _ [24, 25, 26, 27, 111, 112, 113, 114] (by decide +kernel) (by decide +kernel)
set_option maxRecDepth 20000 in
theorem gX6_sum_X9_add : GoodIn wsX6_sum (wsV RX6 273 RX9 yX9_add wsX9_add) := goodIn_app (goodIn_of _ (by decide +kernel)) ggX6_sum_X9_add
theorem k_X6_sum_f34 : Cond.fieldLink RX6 34 "TideLots$Reader" "built" "LTideLots$Shore;" ∈ wsX6_sum := by decide +kernel
theorem i_X6_sum_X6 : ∀ w ∈ u_ws RX6 TX6 9, w ∈ wsX6_sum := by decide +kernel
theorem k_X6_sum_f193 : Cond.fieldLink RX6 193 "TideLots$Shore" "sums" "LTideLots$Sums;" ∈ wsX6_sum := by decide +kernel
theorem i_X6_sum_X7 : ∀ w ∈ u_ws RX7 TX7 17, w ∈ wsX6_sum := by decide +kernel
theorem k_X6_sum_f300 : Cond.fieldLink RX6 300 "TideLots$Sign" "PLUS" "LTideLots$Sign;" ∈ wsX6_sum := by decide +kernel
theorem k_X6_sum_f303 : Cond.fieldLink RX6 303 "TideLots$Sign" "MINUS" "LTideLots$Sign;" ∈ wsX6_sum := by decide +kernel
noncomputable def b_X6_sum_80 (Z : Nat → Nat) (F : Nat → gMem → Nat → Int32 → Option (Int32 × gMem)) (M : gMem)  : Option (Int32 × gMem) :=
  some ((1 : Int32), M)
noncomputable def b_X6_sum_60 (Z : Nat → Nat) (F : Nat → gMem → Nat → Int32 → Option (Int32 × gMem)) (M : gMem)  : Option (Int32 × gMem) :=
  some ((0 : Int32), M)
noncomputable def b_X6_sum_39 (Z : Nat → Nat) (F : Nat → gMem → Nat → Int32 → Option (Int32 × gMem)) (M : gMem) (x0 : Nat) (x1 : Int32) (x2 : Int32) : Option ((gMem × Int32) ⊕ (Int32 × gMem)) :=
  ck (mT M x0 = 6) <| bd (f_X6_sign M x0) fun r1 M1 => ck (mT M1 x0 = 6) <| bd (f_X6_take M1 x0 r1) fun r3 M3 => (if r3 = 0 then oI (b_X6_sum_60 Z F M3 ) else ck (mT M3 x0 = 6) <| bd (F 5 M3 x0 x1) fun r6 M6 => (if r6 = 0 then oI (b_X6_sum_60 Z F M6 ) else ck (mT M6 x0 = 6) <| dr ((mR M6 x0 2)) fun a9 => ck (mT M6 a9 = 7) <| dr ((mR M6 a9 10)) fun a12 => ck (mT M6 a12 = 8) <| bd (f_X9_add Z M6 a12 r1 ((0 : Int32))) fun _ M11 => some (.inl (M11, (x2 + (1 : Int32))))))
noncomputable def bb_X6_sum_12 (Z : Nat → Nat) (F : Nat → gMem → Nat → Int32 → Option (Int32 × gMem)) (M : gMem) (x0 : Nat) (x1 : Int32) (x2 : Int32) : Option ((gMem × Int32) ⊕ (Int32 × gMem)) :=
  (if (400 : Int32) ≤ x2 then oI (b_X6_sum_80 Z F M ) else ck (mT M x0 = 6) <| bd (f_X6_sign M x0) fun r16 M16 => (if r16 = (some (Z 31)) then b_X6_sum_39 Z F M16 x0 x1 x2 else ck (mT M16 x0 = 6) <| bd (f_X6_sign M16 x0) fun r18 M18 => (if r18 = (some (Z 32)) then b_X6_sum_39 Z F M18 x0 x1 x2 else oI (b_X6_sum_80 Z F M18 ))))
noncomputable def lp_X6_sum_12 (Z : Nat → Nat) (F : Nat → gMem → Nat → Int32 → Option (Int32 × gMem)) (M : gMem) (x0 : Nat) (x1 : Int32) (x2 : Int32) : Option (Int32 × gMem) :=
  lp (fun (q : gMem × Int32) => bb_X6_sum_12 Z F q.1 x0 x1 q.2) (M, x2)
noncomputable def b_X6_sum_0 (Z : Nat → Nat) (F : Nat → gMem → Nat → Int32 → Option (Int32 × gMem)) (M : gMem) (x0 : Nat) (x1 : Int32) : Option (Int32 × gMem) :=
  ck (mT M x0 = 6) <| bd (F 5 M x0 x1) fun r21 M21 => (if r21 = 0 then some ((0 : Int32), M21) else lp_X6_sum_12 Z F M21 x0 x1 ((0 : Int32)))
noncomputable def fr_X6_sum (Z : Nat → Nat) (F : Nat → gMem → Nat → Int32 → Option (Int32 × gMem)) (M : gMem) (x0 : Nat) (x1 : Int32) : Option (Int32 × gMem) :=
  b_X6_sum_0 Z F M x0 x1
set_option maxHeartbeats 4000000 in
set_option maxRecDepth 100000 in
theorem t_X6_sum_80 (X : gX p s m args meth c D cy B (gSt Z B H0) RX6 cX6_sum wsX6_sum 4) (hr : meth.sig.returnType = (some .boolean)) {n0 : Nat} {F : Nat → gMem → Nat → Int32 → Option (Int32 × gMem)} (hF : hX6R l D cy B H0 Z n0 F) {Q : State → Prop} : ∀ (M : gMem)  (z : Int32 × gMem), b_X6_sum_80 Z F M  = some z → (fun (r : Int32 × gMem) => Q = gMQ below D cy B H0 args s 0 0 (some (vI r.1)) r.2) z → gGo p l e (rX6R (n0 + 1)) s m args below meth c D cy B H0 4 0 0 Q 80 [] [] M := by
  intro M  z hf hK
  unfold b_X6_sum_80 at hf
  refine g_iconst (v := (1 : Int32)) X dX6_sum_80 (by decide) ?_
  cases hf
  refine g_eqQ hK ?_
  exact g_zret X hr (gnb (Or.inr rfl)) dX6_sum_81
set_option maxHeartbeats 4000000 in
set_option maxRecDepth 100000 in
theorem t_X6_sum_60 (X : gX p s m args meth c D cy B (gSt Z B H0) RX6 cX6_sum wsX6_sum 4) (hr : meth.sig.returnType = (some .boolean)) {n0 : Nat} {F : Nat → gMem → Nat → Int32 → Option (Int32 × gMem)} (hF : hX6R l D cy B H0 Z n0 F) {Q : State → Prop} : ∀ (M : gMem)  (z : Int32 × gMem), b_X6_sum_60 Z F M  = some z → (fun (r : Int32 × gMem) => Q = gMQ below D cy B H0 args s 0 0 (some (vI r.1)) r.2) z → gGo p l e (rX6R (n0 + 1)) s m args below meth c D cy B H0 4 0 0 Q 60 [] [] M := by
  intro M  z hf hK
  unfold b_X6_sum_60 at hf
  refine g_iconst (v := (0 : Int32)) X dX6_sum_60 (by decide) ?_
  cases hf
  refine g_eqQ hK ?_
  exact g_zret X hr (gnb (Or.inl rfl)) dX6_sum_61
set_option maxHeartbeats 4000000 in
set_option maxRecDepth 100000 in
theorem t_X6_sum_39 (X : gX p s m args meth c D cy B (gSt Z B H0) RX6 cX6_sum wsX6_sum 4) (hr : meth.sig.returnType = (some .boolean)) {n0 : Nat} {F : Nat → gMem → Nat → Int32 → Option (Int32 × gMem)} (hF : hX6R l D cy B H0 Z n0 F) {Q : State → Prop} : ∀ (M : gMem) (x0 : Nat) (x1 : Int32) (x2 : Int32) (z : (gMem × Int32) ⊕ (Int32 × gMem)), b_X6_sum_39 Z F M x0 x1 x2 = some z → (Sum.elim (fun (q : gMem × Int32) => gGo p l e (rX6R (n0 + 1)) s m args below meth c D cy B H0 4 0 0 Q 12 [(0, vR (some x0)), (1, vI x1), (2, vI q.2)] [] q.1) (fun (r : Int32 × gMem) => Q = gMQ below D cy B H0 args s 0 0 (some (vI r.1)) r.2)) z → gGo p l e (rX6R (n0 + 1)) s m args below meth c D cy B H0 4 0 0 Q 39 [(0, vR (some x0)), (1, vI x1), (2, vI x2)] [] M := by
  intro M x0 x1 x2 z hf hK
  unfold b_X6_sum_39 at hf
  refine g_aload_n X dX6_sum_39 rfl rfl ?_
  obtain ⟨hT2, hf⟩ := ck_e hf
  obtain ⟨r1, M1, hq1, hf⟩ := bd_e hf
  refine g_callV (ci := 5) (b := x0) (As := []) (st := []) (v := some (vR r1)) (M1 := M1) X (m_X6_sign l hq1) (cwV 0 X.2.2.1 gX6_sum_X6_sign rfl rfl rfl (by decide +kernel) ⟨rX6R_f (Nat.le_of_ble_eq_true rfl), rX6R_l (Nat.le_of_ble_eq_true rfl)⟩) rfl rfl rfl hT2 (by decide) rfl (Nat.le_of_ble_eq_true rfl) dX6_sum_40 ⟨Nat.zero_le _, Nat.zero_le _⟩ ?_
  refine g_astore_n (lv' := [(3, vR r1), (0, vR (some x0)), (1, vI x1), (2, vI x2)]) X dX6_sum_43 rfl (by decide) rfl ?_
  refine g_aload_n X dX6_sum_44 rfl rfl ?_
  refine g_aload_n X dX6_sum_45 rfl rfl ?_
  obtain ⟨hT4, hf⟩ := ck_e hf
  obtain ⟨r3, M3, hq3, hf⟩ := bd_e hf
  refine g_callV (ci := 5) (b := x0) (As := [vR r1]) (st := []) (v := some (vI r3)) (M1 := M3) X (m_X6_take l hq3) (cwV 1 X.2.2.1 gX6_sum_X6_take rfl rfl rfl (by decide +kernel) ⟨rX6R_f (Nat.le_of_ble_eq_true rfl), rX6R_l (Nat.le_of_ble_eq_true rfl)⟩) rfl rfl rfl hT4 (by decide) rfl (Nat.le_of_ble_eq_true rfl) dX6_sum_46 ⟨Nat.zero_le _, Nat.zero_le _⟩ ?_
  refine g_if_eq (tgt := 60) X dX6_sum_49 (by decide) (fun hc => ?_) (fun hc => ?_)
  · have hf := ife_t hc hf
    obtain ⟨w5, hw5, hz5⟩ := oI_e hf
    subst hz5
    have hf := hw5
    refine g_sub (lvsub_of _ _ [] rfl) ?_
    exact t_X6_sum_60 X hr hF _  _ hf hK
  · have hf := ife_f hc hf
    refine g_aload_n X dX6_sum_52 rfl rfl ?_
    refine g_iload_n X dX6_sum_53 rfl rfl ?_
    obtain ⟨hT7, hf⟩ := ck_e hf
    obtain ⟨r6, M6, hq6, hf⟩ := bd_e hf
    refine g_callV (ci := 5) (b := x0) (As := [vI x1]) (st := []) (v := some (vI r6)) (M1 := M6) X (hF.2.2.2.2.2.1 _ _ _ _ _ hq6) (cwV 1 X.2.2.1 gX6_sum_X6_product rfl rfl rfl (by decide +kernel) ⟨rX6R_rf, rX6R_rl (Nat.le_of_ble_eq_true rfl)⟩) rfl rfl rfl hT7 (by decide) rfl (Nat.le_of_ble_eq_true rfl) dX6_sum_54 ⟨Nat.zero_le _, Nat.zero_le _⟩ ?_
    refine g_if_ne (tgt := 62) X dX6_sum_57 (by decide) (fun hc => ?_) (fun hc => ?_)
    · have hf := ife_f hc hf
      refine g_aload_n X dX6_sum_62 rfl rfl ?_
      obtain ⟨hT8, hf⟩ := ck_e hf
      refine g_get (ci := 5) (v := vR (mR M6 x0 2)) 2 X cdX6 i_X6_sum_X6 (by decide) k_X6_sum_f34 rfl dX6_sum_63 rfl hT8 rfl ?_
      obtain ⟨a9, ha9, hf⟩ := dr_e hf
      obtain ⟨hT10, hf⟩ := ck_e hf
      refine g_get (ci := 6) (v := vR (mR M6 a9 10)) 10 X cdX7 i_X6_sum_X7 (by decide) k_X6_sum_f193 rfl dX6_sum_66 ha9 hT10 rfl ?_
      refine g_aload_n X dX6_sum_69 rfl rfl ?_
      refine g_iconst (v := (0 : Int32)) X dX6_sum_70 (by decide) ?_
      obtain ⟨a12, ha12, hf⟩ := dr_e hf
      obtain ⟨hT13, hf⟩ := ck_e hf
      obtain ⟨r11, M11, hq11, hf⟩ := bd_e hf
      refine g_callV (ci := 7) (b := a12) (As := [vR r1, vI (0 : Int32)]) (st := []) (v := none) (M1 := M11) X (m_X9_add l hq11) (cwV 2 X.2.2.1 gX6_sum_X9_add rfl rfl rfl (by decide +kernel) ⟨rX6R_f (Nat.le_of_ble_eq_true rfl), rX6R_l (Nat.le_of_ble_eq_true rfl)⟩) rfl rfl ha12 hT13 (by decide) rfl (Nat.le_of_ble_eq_true rfl) dX6_sum_71 ⟨Nat.zero_le _, Nat.zero_le _⟩ ?_
      refine g_iinc (v := (1 : Int32)) (lv' := [(2, vI (x2 + (1 : Int32))), (3, vR r1), (0, vR (some x0)), (1, vI x1)]) X dX6_sum_74 rfl (by decide) (by decide) rfl ?_
      refine g_goto (tgt := 12) X dX6_sum_77 (by decide) ?_
      cases hf
      refine g_sub (lvsub_of _ _ [2, 3, 0] rfl) ?_
      exact hK
    · have hf := ife_t hc hf
      obtain ⟨w14, hw14, hz14⟩ := oI_e hf
      subst hz14
      have hf := hw14
      refine g_sub (lvsub_of _ _ [] rfl) ?_
      exact t_X6_sum_60 X hr hF _  _ hf hK
set_option maxHeartbeats 4000000 in
set_option maxRecDepth 100000 in
theorem tb_X6_sum_12 (X : gX p s m args meth c D cy B (gSt Z B H0) RX6 cX6_sum wsX6_sum 4) (hr : meth.sig.returnType = (some .boolean)) {n0 : Nat} {F : Nat → gMem → Nat → Int32 → Option (Int32 × gMem)} (hF : hX6R l D cy B H0 Z n0 F) {Q : State → Prop} : ∀ (M : gMem) (x0 : Nat) (x1 : Int32) (x2 : Int32) (z : (gMem × Int32) ⊕ (Int32 × gMem)), bb_X6_sum_12 Z F M x0 x1 x2 = some z → (Sum.elim (fun (q : gMem × Int32) => gGo p l e (rX6R (n0 + 1)) s m args below meth c D cy B H0 4 0 0 Q 12 [(0, vR (some x0)), (1, vI x1), (2, vI q.2)] [] q.1) (fun (r : Int32 × gMem) => Q = gMQ below D cy B H0 args s 0 0 (some (vI r.1)) r.2)) z → gGo p l e (rX6R (n0 + 1)) s m args below meth c D cy B H0 4 0 0 Q 12 [(0, vR (some x0)), (1, vI x1), (2, vI x2)] [] M := by
  intro M x0 x1 x2 z hf hK
  unfold bb_X6_sum_12 at hf
  refine g_iload_n X dX6_sum_12 rfl rfl ?_
  refine g_sipush (v := (400 : Int32)) X dX6_sum_13 (by decide) ?_
  refine g_icmp_ge (tgt := 80) X dX6_sum_16 (by decide) (fun hc => ?_) (fun hc => ?_)
  · have hf := ife_t hc hf
    obtain ⟨w15, hw15, hz15⟩ := oI_e hf
    subst hz15
    have hf := hw15
    refine g_sub (lvsub_of _ _ [] rfl) ?_
    exact t_X6_sum_80 X hr hF _  _ hf hK
  · have hf := ife_f hc hf
    refine g_aload_n X dX6_sum_19 rfl rfl ?_
    obtain ⟨hT17, hf⟩ := ck_e hf
    obtain ⟨r16, M16, hq16, hf⟩ := bd_e hf
    refine g_callV (ci := 5) (b := x0) (As := []) (st := []) (v := some (vR r16)) (M1 := M16) X (m_X6_sign l hq16) (cwV 0 X.2.2.1 gX6_sum_X6_sign rfl rfl rfl (by decide +kernel) ⟨rX6R_f (Nat.le_of_ble_eq_true rfl), rX6R_l (Nat.le_of_ble_eq_true rfl)⟩) rfl rfl rfl hT17 (by decide) rfl (Nat.le_of_ble_eq_true rfl) dX6_sum_20 ⟨Nat.zero_le _, Nat.zero_le _⟩ ?_
    refine g_gets (w := vR (some (Z 31))) X (gSt_E X 31 (by decide)) k_X6_sum_f300 rfl dX6_sum_23 ?_
    refine g_acmp_eq (tgt := 39) X dX6_sum_26 (by decide) (fun hc => ?_) (fun hc => ?_)
    · have hf := ife_t hc hf
      refine g_sub (lvsub_of _ _ [0, 1, 2] rfl) ?_
      exact t_X6_sum_39 X hr hF _ _ _ _ _ hf hK
    · have hf := ife_f hc hf
      refine g_aload_n X dX6_sum_29 rfl rfl ?_
      obtain ⟨hT19, hf⟩ := ck_e hf
      obtain ⟨r18, M18, hq18, hf⟩ := bd_e hf
      refine g_callV (ci := 5) (b := x0) (As := []) (st := []) (v := some (vR r18)) (M1 := M18) X (m_X6_sign l hq18) (cwV 0 X.2.2.1 gX6_sum_X6_sign rfl rfl rfl (by decide +kernel) ⟨rX6R_f (Nat.le_of_ble_eq_true rfl), rX6R_l (Nat.le_of_ble_eq_true rfl)⟩) rfl rfl rfl hT19 (by decide) rfl (Nat.le_of_ble_eq_true rfl) dX6_sum_30 ⟨Nat.zero_le _, Nat.zero_le _⟩ ?_
      refine g_gets (w := vR (some (Z 32))) X (gSt_E X 32 (by decide)) k_X6_sum_f303 rfl dX6_sum_33 ?_
      refine g_acmp_ne (tgt := 80) X dX6_sum_36 (by decide) (fun hc => ?_) (fun hc => ?_)
      · have hf := ife_f hc hf
        obtain ⟨w20, hw20, hz20⟩ := oI_e hf
        subst hz20
        have hf := hw20
        refine g_sub (lvsub_of _ _ [] rfl) ?_
        exact t_X6_sum_80 X hr hF _  _ hf hK
      · have hf := ife_t hc hf
        refine g_sub (lvsub_of _ _ [0, 1, 2] rfl) ?_
        exact t_X6_sum_39 X hr hF _ _ _ _ _ hf hK
set_option maxHeartbeats 4000000 in
set_option maxRecDepth 100000 in
theorem tl_X6_sum_12 (X : gX p s m args meth c D cy B (gSt Z B H0) RX6 cX6_sum wsX6_sum 4) (hr : meth.sig.returnType = (some .boolean)) {n0 : Nat} {F : Nat → gMem → Nat → Int32 → Option (Int32 × gMem)} (hF : hX6R l D cy B H0 Z n0 F) {Q : State → Prop} : ∀ (M : gMem) (x0 : Nat) (x1 : Int32) (x2 : Int32) (z : Int32 × gMem), lp_X6_sum_12 Z F M x0 x1 x2 = some z → (fun (r : Int32 × gMem) => Q = gMQ below D cy B H0 args s 0 0 (some (vI r.1)) r.2) z → gGo p l e (rX6R (n0 + 1)) s m args below meth c D cy B H0 4 0 0 Q 12 [(0, vR (some x0)), (1, vI x1), (2, vI x2)] [] M := by
  intro M x0 x1 x2 z hf hK
  refine lp_ind (P := (fun (q : gMem × Int32) (z : Int32 × gMem) => (fun (r : Int32 × gMem) => Q = gMQ below D cy B H0 args s 0 0 (some (vI r.1)) r.2) z → gGo p l e (rX6R (n0 + 1)) s m args below meth c D cy B H0 4 0 0 Q 12 [(0, vR (some x0)), (1, vI x1), (2, vI q.2)] [] q.1)) (fun q z hq => ?_) _ _ hf hK
  intro hK
  obtain ⟨w, hw, hm⟩ := hq
  refine tb_X6_sum_12 X hr hF _ _ _ _ w hw ?_
  cases w with
  | inl a => exact hm hK
  | inr b => cases hm; exact hK
set_option maxHeartbeats 4000000 in
set_option maxRecDepth 100000 in
theorem t_X6_sum_0 (X : gX p s m args meth c D cy B (gSt Z B H0) RX6 cX6_sum wsX6_sum 4) (hr : meth.sig.returnType = (some .boolean)) {n0 : Nat} {F : Nat → gMem → Nat → Int32 → Option (Int32 × gMem)} (hF : hX6R l D cy B H0 Z n0 F) {Q : State → Prop} : ∀ (M : gMem) (x0 : Nat) (x1 : Int32) (z : Int32 × gMem), b_X6_sum_0 Z F M x0 x1 = some z → (fun (r : Int32 × gMem) => Q = gMQ below D cy B H0 args s 0 0 (some (vI r.1)) r.2) z → gGo p l e (rX6R (n0 + 1)) s m args below meth c D cy B H0 4 0 0 Q 0 [(0, vR (some x0)), (1, vI x1)] [] M := by
  intro M x0 x1 z hf hK
  unfold b_X6_sum_0 at hf
  refine g_aload_n X dX6_sum_0 rfl rfl ?_
  refine g_iload_n X dX6_sum_1 rfl rfl ?_
  obtain ⟨hT22, hf⟩ := ck_e hf
  obtain ⟨r21, M21, hq21, hf⟩ := bd_e hf
  refine g_callV (ci := 5) (b := x0) (As := [vI x1]) (st := []) (v := some (vI r21)) (M1 := M21) X (hF.2.2.2.2.2.1 _ _ _ _ _ hq21) (cwV 1 X.2.2.1 gX6_sum_X6_product rfl rfl rfl (by decide +kernel) ⟨rX6R_rf, rX6R_rl (Nat.le_of_ble_eq_true rfl)⟩) rfl rfl rfl hT22 (by decide) rfl (Nat.le_of_ble_eq_true rfl) dX6_sum_2 ⟨Nat.zero_le _, Nat.zero_le _⟩ ?_
  refine g_if_ne (tgt := 10) X dX6_sum_5 (by decide) (fun hc => ?_) (fun hc => ?_)
  · have hf := ife_f hc hf
    refine g_iconst (v := (0 : Int32)) X dX6_sum_10 (by decide) ?_
    refine g_istore_n (lv' := [(2, vI (0 : Int32)), (0, vR (some x0)), (1, vI x1)]) X dX6_sum_11 rfl (by decide) rfl ?_
    refine g_sub (lvsub_of _ _ [1, 2, 0] rfl) ?_
    exact tl_X6_sum_12 X hr hF _ _ _ _ _ hf hK
  · have hf := ife_t hc hf
    refine g_iconst (v := (0 : Int32)) X dX6_sum_8 (by decide) ?_
    cases hf
    refine g_eqQ hK ?_
    exact g_zret X hr (gnb (Or.inl rfl)) dX6_sum_9
set_option maxHeartbeats 4000000 in
set_option maxRecDepth 100000 in
theorem mr_X6_sum (l : Launch) {D : va_G} {cy : Nat → ClassId} {B : Nat} {H0 : Heap} {Z : Nat → Nat} {M M1 : gMem} {n0 : Nat} {F : Nat → gMem → Nat → Int32 → Option (Int32 × gMem)} (hF : hX6R l D cy B H0 Z n0 F) {x0 : Nat} {x1 : Int32} {r : Int32} (hf : fr_X6_sum Z F M x0 x1 = some (r, M1)) : Met l yX6_sum wsX6_sum (rX6R (n0 + 1)) (va_Pc (Value.ref x0 :: List.map gv [vI x1]) (gPre D cy B H0 (gSt Z B H0) M)) (gQ D cy B H0 (some (vI r)) M1) 0 0 (gA B) := by
  refine Met.ofW (cc := cX6_sum) (maxL := 4) (ret := (some .boolean)) (by decide) rfl ?_
  intro p e s m args below meth c s₁ Bd hml hv
  obtain ⟨rfl, hW, hKK, hFs⟩ := hv
  have X : gX p s m _ meth c D cy B (gSt Z B H0) RX6 cX6_sum wsX6_sum 4 := ⟨Bd.exec, Bd.bytes, atoms_spec (ws := wsX6_sum) Bd.pre, findClass_of_methodNamed Bd.named, hml, hKK, by rw [hW.1]; exact hW.2.1, Bd.notSynchronized, hFs⟩
  have hr := Bd.returns
  have hl := lv_entry ([.ref x0, .int x1]) (n := 4) (Nat.le_of_ble_eq_true rfl)
  show W p l e (rX6R (n0 + 1)) s m _ below meth c s.heap [] 0 0 _ (entryFrame m ([.ref x0, .int x1] : List Value).toArray 4)
  rw [lg_entry_eq]
  generalize (lg_sl ([.ref x0, .int x1]) ++ List.replicate (4 - (lg_sl ([.ref x0, .int x1])).length) Slot.unset).toArray = ls at hl ⊢
  have hl : lv_has ls 4 (List.map gq [(0, vR (some x0)), (1, vI x1)]) := hl
  exact t_X6_sum_0 X hr hF _ _ _ _ hf rfl s.heap [] ls hW va_S.rf (lv_has_sub hl (lvsub_of _ _ [0, 1] rfl))
/-! ## TideLots$Reader.product(I)Z -/
theorem dX6_product_0 : decode cX6_product 0 = .ok (.aload_n 0, 1) := by decide +kernel
theorem dX6_product_1 : decode cX6_product 1 = .ok (.iload_n 1, 1) := by decide +kernel
theorem dX6_product_2 : decode cX6_product 2 = .ok (.invokevirtual 306, 3) := by decide +kernel
theorem dX6_product_5 : decode cX6_product 5 = .ok (.ifCond .ne 5, 3) := by decide +kernel
theorem dX6_product_8 : decode cX6_product 8 = .ok (.iconst 0, 1) := by decide +kernel
theorem dX6_product_9 : decode cX6_product 9 = .ok (.ireturn, 1) := by decide +kernel
theorem dX6_product_10 : decode cX6_product 10 = .ok (.iconst 0, 1) := by decide +kernel
theorem dX6_product_11 : decode cX6_product 11 = .ok (.istore_n 2, 1) := by decide +kernel
theorem dX6_product_12 : decode cX6_product 12 = .ok (.iload_n 2, 1) := by decide +kernel
theorem dX6_product_13 : decode cX6_product 13 = .ok (.sipush 400, 3) := by decide +kernel
theorem dX6_product_16 : decode cX6_product 16 = .ok (.if_icmp .ge 64, 3) := by decide +kernel
theorem dX6_product_19 : decode cX6_product 19 = .ok (.aload_n 0, 1) := by decide +kernel
theorem dX6_product_20 : decode cX6_product 20 = .ok (.invokevirtual 43, 3) := by decide +kernel
theorem dX6_product_23 : decode cX6_product 23 = .ok (.getstatic 309, 3) := by decide +kernel
theorem dX6_product_26 : decode cX6_product 26 = .ok (.if_acmp .eq 13, 3) := by decide +kernel
theorem dX6_product_29 : decode cX6_product 29 = .ok (.aload_n 0, 1) := by decide +kernel
theorem dX6_product_30 : decode cX6_product 30 = .ok (.invokevirtual 43, 3) := by decide +kernel
theorem dX6_product_33 : decode cX6_product 33 = .ok (.getstatic 312, 3) := by decide +kernel
theorem dX6_product_36 : decode cX6_product 36 = .ok (.if_acmp .ne 44, 3) := by decide +kernel
theorem dX6_product_39 : decode cX6_product 39 = .ok (.aload_n 0, 1) := by decide +kernel
theorem dX6_product_40 : decode cX6_product 40 = .ok (.invokevirtual 43, 3) := by decide +kernel
theorem dX6_product_43 : decode cX6_product 43 = .ok (.astore_n 3, 1) := by decide +kernel
theorem dX6_product_44 : decode cX6_product 44 = .ok (.aload_n 0, 1) := by decide +kernel
theorem dX6_product_45 : decode cX6_product 45 = .ok (.aload_n 3, 1) := by decide +kernel
theorem dX6_product_46 : decode cX6_product 46 = .ok (.invokevirtual 79, 3) := by decide +kernel
theorem dX6_product_49 : decode cX6_product 49 = .ok (.ifCond .eq 11, 3) := by decide +kernel
theorem dX6_product_52 : decode cX6_product 52 = .ok (.aload_n 0, 1) := by decide +kernel
theorem dX6_product_53 : decode cX6_product 53 = .ok (.iload_n 1, 1) := by decide +kernel
theorem dX6_product_54 : decode cX6_product 54 = .ok (.invokevirtual 306, 3) := by decide +kernel
theorem dX6_product_57 : decode cX6_product 57 = .ok (.ifCond .ne 5, 3) := by decide +kernel
theorem dX6_product_60 : decode cX6_product 60 = .ok (.iconst 0, 1) := by decide +kernel
theorem dX6_product_61 : decode cX6_product 61 = .ok (.ireturn, 1) := by decide +kernel
theorem dX6_product_62 : decode cX6_product 62 = .ok (.aload_n 0, 1) := by decide +kernel
theorem dX6_product_63 : decode cX6_product 63 = .ok (.getfield 34, 3) := by decide +kernel
theorem dX6_product_66 : decode cX6_product 66 = .ok (.getfield 193, 3) := by decide +kernel
theorem dX6_product_69 : decode cX6_product 69 = .ok (.aload_n 3, 1) := by decide +kernel
theorem dX6_product_70 : decode cX6_product 70 = .ok (.iconst 0, 1) := by decide +kernel
theorem dX6_product_71 : decode cX6_product 71 = .ok (.invokevirtual 273, 3) := by decide +kernel
theorem dX6_product_74 : decode cX6_product 74 = .ok (.iinc 2 1, 3) := by decide +kernel
theorem dX6_product_77 : decode cX6_product 77 = .ok (.goto (-65), 3) := by decide +kernel
theorem dX6_product_80 : decode cX6_product 80 = .ok (.iconst 1, 1) := by decide +kernel
theorem dX6_product_81 : decode cX6_product 81 = .ok (.ireturn, 1) := by decide +kernel
set_option maxRecDepth 20000 in
theorem ggX6_product_X6_sign : GoodIn wsX6_product wsX6_sign := goodIn_r _ [12, 13, 14, 15, 79, 80, 81, 82, 83, 84, 85, 86, 87, 105, 106, 107, 108, 109, 110] (by decide +kernel) (by decide +kernel)
set_option maxRecDepth 20000 in
theorem gX6_product_X6_sign : GoodIn wsX6_product (wsV RX6 43 RX6 yX6_sign wsX6_sign) := goodIn_app (goodIn_of _ (by decide +kernel)) ggX6_product_X6_sign
set_option maxRecDepth 20000 in
theorem ggX6_product_X6_take : GoodIn wsX6_product wsX6_take := goodIn_r _ [19, 15, 13, 14, 79, 80, 81, 82, 83, 84, 85, 86, 87, 105, 106, 107, 108, 109, 110] (by decide +kernel) (by decide +kernel)
set_option maxRecDepth 20000 in
theorem gX6_product_X6_take : GoodIn wsX6_product (wsV RX6 79 RX6 yX6_take wsX6_take) := goodIn_app (goodIn_of _ (by decide +kernel)) ggX6_product_X6_take
set_option maxRecDepth 20000 in
theorem ggX6_product_X6_value : GoodIn wsX6_product wsX6_value := goodIn_2 24 (goodIn_r _ [34, 35, 36, 37, 38, 39, 30, 40, 41, 42, 3, 4, 43, 9, 10, 11, 8, 12, 13, 14, 15, 44, 45, 46] (by decide +kernel) (by decide +kernel)) (goodIn_2 24 (goodIn_r _ [47, 48, 49, 50, 51, 52, 53, 54, 55, 56, 57, 58, 59, 60, 61, 62, 63, 16, 17, 18, 19, 64, 65, 66] (by decide +kernel) (by decide +kernel)) (goodIn_2 24 (goodIn_r _ [67, 68, 69, 70, 71, 72, 73, 74, 75, 5, 6, 7, 76, 77, 78, 20, 21, 22, 23, 24, 25, 26, 27, 0] (by decide +kernel) (by decide +kernel)) (goodIn_2 24 (goodIn_r _ [1, 2, 28, 29, 31, 32, 33, 79, 80, 81, 82, 83, 84, 85, 86, 87, 88, 89, 90, 91, 92, 93, 94, 95] (by decide +kernel) (by decide +kernel)) (goodIn_r _ [96, 97, 98, 99, 100, 101, 102, 103, 104, 105, 106, 107, 108, 109, 110, 111, 112, 113, 114, 115, 116] (by decide +kernel) (by decide +kernel)))))
set_option maxRecDepth 20000 in
theorem gX6_product_X6_value : GoodIn wsX6_product (wsV RX6 306 RX6 yX6_value wsX6_value) := goodIn_app (goodIn_of _ (by decide +kernel)) ggX6_product_X6_value
set_option maxRecDepth 20000 in
theorem ggX6_product_X9_add : GoodIn wsX6_product wsX9_add := goodIn_r _ [24, 25, 26, 27, 111, 112, 113, 114] (by decide +kernel) (by decide +kernel)
set_option maxRecDepth 20000 in
theorem gX6_product_X9_add : GoodIn wsX6_product (wsV RX6 273 RX9 yX9_add wsX9_add) := goodIn_app (goodIn_of _ (by decide +kernel)) ggX6_product_X9_add
theorem k_X6_product_f34 : Cond.fieldLink RX6 34 "TideLots$Reader" "built" "LTideLots$Shore;" ∈ wsX6_product := by decide +kernel
theorem i_X6_product_X6 : ∀ w ∈ u_ws RX6 TX6 9, w ∈ wsX6_product := by decide +kernel
theorem k_X6_product_f193 : Cond.fieldLink RX6 193 "TideLots$Shore" "sums" "LTideLots$Sums;" ∈ wsX6_product := by decide +kernel
theorem i_X6_product_X7 : ∀ w ∈ u_ws RX7 TX7 17, w ∈ wsX6_product := by decide +kernel
theorem k_X6_product_f309 : Cond.fieldLink RX6 309 "TideLots$Sign" "TIMES" "LTideLots$Sign;" ∈ wsX6_product := by decide +kernel
theorem k_X6_product_f312 : Cond.fieldLink RX6 312 "TideLots$Sign" "OVER" "LTideLots$Sign;" ∈ wsX6_product := by decide +kernel
noncomputable def b_X6_product_80 (Z : Nat → Nat) (F : Nat → gMem → Nat → Int32 → Option (Int32 × gMem)) (M : gMem)  : Option (Int32 × gMem) :=
  some ((1 : Int32), M)
noncomputable def b_X6_product_60 (Z : Nat → Nat) (F : Nat → gMem → Nat → Int32 → Option (Int32 × gMem)) (M : gMem)  : Option (Int32 × gMem) :=
  some ((0 : Int32), M)
noncomputable def b_X6_product_39 (Z : Nat → Nat) (F : Nat → gMem → Nat → Int32 → Option (Int32 × gMem)) (M : gMem) (x0 : Nat) (x1 : Int32) (x2 : Int32) : Option ((gMem × Int32) ⊕ (Int32 × gMem)) :=
  ck (mT M x0 = 6) <| bd (f_X6_sign M x0) fun r1 M1 => ck (mT M1 x0 = 6) <| bd (f_X6_take M1 x0 r1) fun r3 M3 => (if r3 = 0 then oI (b_X6_product_60 Z F M3 ) else ck (mT M3 x0 = 6) <| bd (F 6 M3 x0 x1) fun r6 M6 => (if r6 = 0 then oI (b_X6_product_60 Z F M6 ) else ck (mT M6 x0 = 6) <| dr ((mR M6 x0 2)) fun a9 => ck (mT M6 a9 = 7) <| dr ((mR M6 a9 10)) fun a12 => ck (mT M6 a12 = 8) <| bd (f_X9_add Z M6 a12 r1 ((0 : Int32))) fun _ M11 => some (.inl (M11, (x2 + (1 : Int32))))))
noncomputable def bb_X6_product_12 (Z : Nat → Nat) (F : Nat → gMem → Nat → Int32 → Option (Int32 × gMem)) (M : gMem) (x0 : Nat) (x1 : Int32) (x2 : Int32) : Option ((gMem × Int32) ⊕ (Int32 × gMem)) :=
  (if (400 : Int32) ≤ x2 then oI (b_X6_product_80 Z F M ) else ck (mT M x0 = 6) <| bd (f_X6_sign M x0) fun r16 M16 => (if r16 = (some (Z 33)) then b_X6_product_39 Z F M16 x0 x1 x2 else ck (mT M16 x0 = 6) <| bd (f_X6_sign M16 x0) fun r18 M18 => (if r18 = (some (Z 34)) then b_X6_product_39 Z F M18 x0 x1 x2 else oI (b_X6_product_80 Z F M18 ))))
noncomputable def lp_X6_product_12 (Z : Nat → Nat) (F : Nat → gMem → Nat → Int32 → Option (Int32 × gMem)) (M : gMem) (x0 : Nat) (x1 : Int32) (x2 : Int32) : Option (Int32 × gMem) :=
  lp (fun (q : gMem × Int32) => bb_X6_product_12 Z F q.1 x0 x1 q.2) (M, x2)
noncomputable def b_X6_product_0 (Z : Nat → Nat) (F : Nat → gMem → Nat → Int32 → Option (Int32 × gMem)) (M : gMem) (x0 : Nat) (x1 : Int32) : Option (Int32 × gMem) :=
  ck (mT M x0 = 6) <| bd (F 6 M x0 x1) fun r21 M21 => (if r21 = 0 then some ((0 : Int32), M21) else lp_X6_product_12 Z F M21 x0 x1 ((0 : Int32)))
noncomputable def fr_X6_product (Z : Nat → Nat) (F : Nat → gMem → Nat → Int32 → Option (Int32 × gMem)) (M : gMem) (x0 : Nat) (x1 : Int32) : Option (Int32 × gMem) :=
  b_X6_product_0 Z F M x0 x1
set_option maxHeartbeats 4000000 in
set_option maxRecDepth 100000 in
theorem t_X6_product_80 (X : gX p s m args meth c D cy B (gSt Z B H0) RX6 cX6_product wsX6_product 4) (hr : meth.sig.returnType = (some .boolean)) {n0 : Nat} {F : Nat → gMem → Nat → Int32 → Option (Int32 × gMem)} (hF : hX6R l D cy B H0 Z n0 F) {Q : State → Prop} : ∀ (M : gMem)  (z : Int32 × gMem), b_X6_product_80 Z F M  = some z → (fun (r : Int32 × gMem) => Q = gMQ below D cy B H0 args s 0 0 (some (vI r.1)) r.2) z → gGo p l e (rX6R (n0 + 1)) s m args below meth c D cy B H0 4 0 0 Q 80 [] [] M := by
  intro M  z hf hK
  unfold b_X6_product_80 at hf
  refine g_iconst (v := (1 : Int32)) X dX6_product_80 (by decide) ?_
  cases hf
  refine g_eqQ hK ?_
  exact g_zret X hr (gnb (Or.inr rfl)) dX6_product_81
set_option maxHeartbeats 4000000 in
set_option maxRecDepth 100000 in
theorem t_X6_product_60 (X : gX p s m args meth c D cy B (gSt Z B H0) RX6 cX6_product wsX6_product 4) (hr : meth.sig.returnType = (some .boolean)) {n0 : Nat} {F : Nat → gMem → Nat → Int32 → Option (Int32 × gMem)} (hF : hX6R l D cy B H0 Z n0 F) {Q : State → Prop} : ∀ (M : gMem)  (z : Int32 × gMem), b_X6_product_60 Z F M  = some z → (fun (r : Int32 × gMem) => Q = gMQ below D cy B H0 args s 0 0 (some (vI r.1)) r.2) z → gGo p l e (rX6R (n0 + 1)) s m args below meth c D cy B H0 4 0 0 Q 60 [] [] M := by
  intro M  z hf hK
  unfold b_X6_product_60 at hf
  refine g_iconst (v := (0 : Int32)) X dX6_product_60 (by decide) ?_
  cases hf
  refine g_eqQ hK ?_
  exact g_zret X hr (gnb (Or.inl rfl)) dX6_product_61
set_option maxHeartbeats 4000000 in
set_option maxRecDepth 100000 in
theorem t_X6_product_39 (X : gX p s m args meth c D cy B (gSt Z B H0) RX6 cX6_product wsX6_product 4) (hr : meth.sig.returnType = (some .boolean)) {n0 : Nat} {F : Nat → gMem → Nat → Int32 → Option (Int32 × gMem)} (hF : hX6R l D cy B H0 Z n0 F) {Q : State → Prop} : ∀ (M : gMem) (x0 : Nat) (x1 : Int32) (x2 : Int32) (z : (gMem × Int32) ⊕ (Int32 × gMem)), b_X6_product_39 Z F M x0 x1 x2 = some z → (Sum.elim (fun (q : gMem × Int32) => gGo p l e (rX6R (n0 + 1)) s m args below meth c D cy B H0 4 0 0 Q 12 [(0, vR (some x0)), (1, vI x1), (2, vI q.2)] [] q.1) (fun (r : Int32 × gMem) => Q = gMQ below D cy B H0 args s 0 0 (some (vI r.1)) r.2)) z → gGo p l e (rX6R (n0 + 1)) s m args below meth c D cy B H0 4 0 0 Q 39 [(0, vR (some x0)), (1, vI x1), (2, vI x2)] [] M := by
  intro M x0 x1 x2 z hf hK
  unfold b_X6_product_39 at hf
  refine g_aload_n X dX6_product_39 rfl rfl ?_
  obtain ⟨hT2, hf⟩ := ck_e hf
  obtain ⟨r1, M1, hq1, hf⟩ := bd_e hf
  refine g_callV (ci := 5) (b := x0) (As := []) (st := []) (v := some (vR r1)) (M1 := M1) X (m_X6_sign l hq1) (cwV 0 X.2.2.1 gX6_product_X6_sign rfl rfl rfl (by decide +kernel) ⟨rX6R_f (Nat.le_of_ble_eq_true rfl), rX6R_l (Nat.le_of_ble_eq_true rfl)⟩) rfl rfl rfl hT2 (by decide) rfl (Nat.le_of_ble_eq_true rfl) dX6_product_40 ⟨Nat.zero_le _, Nat.zero_le _⟩ ?_
  refine g_astore_n (lv' := [(3, vR r1), (0, vR (some x0)), (1, vI x1), (2, vI x2)]) X dX6_product_43 rfl (by decide) rfl ?_
  refine g_aload_n X dX6_product_44 rfl rfl ?_
  refine g_aload_n X dX6_product_45 rfl rfl ?_
  obtain ⟨hT4, hf⟩ := ck_e hf
  obtain ⟨r3, M3, hq3, hf⟩ := bd_e hf
  refine g_callV (ci := 5) (b := x0) (As := [vR r1]) (st := []) (v := some (vI r3)) (M1 := M3) X (m_X6_take l hq3) (cwV 1 X.2.2.1 gX6_product_X6_take rfl rfl rfl (by decide +kernel) ⟨rX6R_f (Nat.le_of_ble_eq_true rfl), rX6R_l (Nat.le_of_ble_eq_true rfl)⟩) rfl rfl rfl hT4 (by decide) rfl (Nat.le_of_ble_eq_true rfl) dX6_product_46 ⟨Nat.zero_le _, Nat.zero_le _⟩ ?_
  refine g_if_eq (tgt := 60) X dX6_product_49 (by decide) (fun hc => ?_) (fun hc => ?_)
  · have hf := ife_t hc hf
    obtain ⟨w5, hw5, hz5⟩ := oI_e hf
    subst hz5
    have hf := hw5
    refine g_sub (lvsub_of _ _ [] rfl) ?_
    exact t_X6_product_60 X hr hF _  _ hf hK
  · have hf := ife_f hc hf
    refine g_aload_n X dX6_product_52 rfl rfl ?_
    refine g_iload_n X dX6_product_53 rfl rfl ?_
    obtain ⟨hT7, hf⟩ := ck_e hf
    obtain ⟨r6, M6, hq6, hf⟩ := bd_e hf
    refine g_callV (ci := 5) (b := x0) (As := [vI x1]) (st := []) (v := some (vI r6)) (M1 := M6) X (hF.2.2.2.2.2.2 _ _ _ _ _ hq6) (cwV 1 X.2.2.1 gX6_product_X6_value rfl rfl rfl (by decide +kernel) ⟨rX6R_rf, rX6R_rl (Nat.le_of_ble_eq_true rfl)⟩) rfl rfl rfl hT7 (by decide) rfl (Nat.le_of_ble_eq_true rfl) dX6_product_54 ⟨Nat.zero_le _, Nat.zero_le _⟩ ?_
    refine g_if_ne (tgt := 62) X dX6_product_57 (by decide) (fun hc => ?_) (fun hc => ?_)
    · have hf := ife_f hc hf
      refine g_aload_n X dX6_product_62 rfl rfl ?_
      obtain ⟨hT8, hf⟩ := ck_e hf
      refine g_get (ci := 5) (v := vR (mR M6 x0 2)) 2 X cdX6 i_X6_product_X6 (by decide) k_X6_product_f34 rfl dX6_product_63 rfl hT8 rfl ?_
      obtain ⟨a9, ha9, hf⟩ := dr_e hf
      obtain ⟨hT10, hf⟩ := ck_e hf
      refine g_get (ci := 6) (v := vR (mR M6 a9 10)) 10 X cdX7 i_X6_product_X7 (by decide) k_X6_product_f193 rfl dX6_product_66 ha9 hT10 rfl ?_
      refine g_aload_n X dX6_product_69 rfl rfl ?_
      refine g_iconst (v := (0 : Int32)) X dX6_product_70 (by decide) ?_
      obtain ⟨a12, ha12, hf⟩ := dr_e hf
      obtain ⟨hT13, hf⟩ := ck_e hf
      obtain ⟨r11, M11, hq11, hf⟩ := bd_e hf
      refine g_callV (ci := 7) (b := a12) (As := [vR r1, vI (0 : Int32)]) (st := []) (v := none) (M1 := M11) X (m_X9_add l hq11) (cwV 2 X.2.2.1 gX6_product_X9_add rfl rfl rfl (by decide +kernel) ⟨rX6R_f (Nat.le_of_ble_eq_true rfl), rX6R_l (Nat.le_of_ble_eq_true rfl)⟩) rfl rfl ha12 hT13 (by decide) rfl (Nat.le_of_ble_eq_true rfl) dX6_product_71 ⟨Nat.zero_le _, Nat.zero_le _⟩ ?_
      refine g_iinc (v := (1 : Int32)) (lv' := [(2, vI (x2 + (1 : Int32))), (3, vR r1), (0, vR (some x0)), (1, vI x1)]) X dX6_product_74 rfl (by decide) (by decide) rfl ?_
      refine g_goto (tgt := 12) X dX6_product_77 (by decide) ?_
      cases hf
      refine g_sub (lvsub_of _ _ [2, 3, 0] rfl) ?_
      exact hK
    · have hf := ife_t hc hf
      obtain ⟨w14, hw14, hz14⟩ := oI_e hf
      subst hz14
      have hf := hw14
      refine g_sub (lvsub_of _ _ [] rfl) ?_
      exact t_X6_product_60 X hr hF _  _ hf hK
set_option maxHeartbeats 4000000 in
set_option maxRecDepth 100000 in
theorem tb_X6_product_12 (X : gX p s m args meth c D cy B (gSt Z B H0) RX6 cX6_product wsX6_product 4) (hr : meth.sig.returnType = (some .boolean)) {n0 : Nat} {F : Nat → gMem → Nat → Int32 → Option (Int32 × gMem)} (hF : hX6R l D cy B H0 Z n0 F) {Q : State → Prop} : ∀ (M : gMem) (x0 : Nat) (x1 : Int32) (x2 : Int32) (z : (gMem × Int32) ⊕ (Int32 × gMem)), bb_X6_product_12 Z F M x0 x1 x2 = some z → (Sum.elim (fun (q : gMem × Int32) => gGo p l e (rX6R (n0 + 1)) s m args below meth c D cy B H0 4 0 0 Q 12 [(0, vR (some x0)), (1, vI x1), (2, vI q.2)] [] q.1) (fun (r : Int32 × gMem) => Q = gMQ below D cy B H0 args s 0 0 (some (vI r.1)) r.2)) z → gGo p l e (rX6R (n0 + 1)) s m args below meth c D cy B H0 4 0 0 Q 12 [(0, vR (some x0)), (1, vI x1), (2, vI x2)] [] M := by
  intro M x0 x1 x2 z hf hK
  unfold bb_X6_product_12 at hf
  refine g_iload_n X dX6_product_12 rfl rfl ?_
  refine g_sipush (v := (400 : Int32)) X dX6_product_13 (by decide) ?_
  refine g_icmp_ge (tgt := 80) X dX6_product_16 (by decide) (fun hc => ?_) (fun hc => ?_)
  · have hf := ife_t hc hf
    obtain ⟨w15, hw15, hz15⟩ := oI_e hf
    subst hz15
    have hf := hw15
    refine g_sub (lvsub_of _ _ [] rfl) ?_
    exact t_X6_product_80 X hr hF _  _ hf hK
  · have hf := ife_f hc hf
    refine g_aload_n X dX6_product_19 rfl rfl ?_
    obtain ⟨hT17, hf⟩ := ck_e hf
    obtain ⟨r16, M16, hq16, hf⟩ := bd_e hf
    refine g_callV (ci := 5) (b := x0) (As := []) (st := []) (v := some (vR r16)) (M1 := M16) X (m_X6_sign l hq16) (cwV 0 X.2.2.1 gX6_product_X6_sign rfl rfl rfl (by decide +kernel) ⟨rX6R_f (Nat.le_of_ble_eq_true rfl), rX6R_l (Nat.le_of_ble_eq_true rfl)⟩) rfl rfl rfl hT17 (by decide) rfl (Nat.le_of_ble_eq_true rfl) dX6_product_20 ⟨Nat.zero_le _, Nat.zero_le _⟩ ?_
    refine g_gets (w := vR (some (Z 33))) X (gSt_E X 33 (by decide)) k_X6_product_f309 rfl dX6_product_23 ?_
    refine g_acmp_eq (tgt := 39) X dX6_product_26 (by decide) (fun hc => ?_) (fun hc => ?_)
    · have hf := ife_t hc hf
      refine g_sub (lvsub_of _ _ [0, 1, 2] rfl) ?_
      exact t_X6_product_39 X hr hF _ _ _ _ _ hf hK
    · have hf := ife_f hc hf
      refine g_aload_n X dX6_product_29 rfl rfl ?_
      obtain ⟨hT19, hf⟩ := ck_e hf
      obtain ⟨r18, M18, hq18, hf⟩ := bd_e hf
      refine g_callV (ci := 5) (b := x0) (As := []) (st := []) (v := some (vR r18)) (M1 := M18) X (m_X6_sign l hq18) (cwV 0 X.2.2.1 gX6_product_X6_sign rfl rfl rfl (by decide +kernel) ⟨rX6R_f (Nat.le_of_ble_eq_true rfl), rX6R_l (Nat.le_of_ble_eq_true rfl)⟩) rfl rfl rfl hT19 (by decide) rfl (Nat.le_of_ble_eq_true rfl) dX6_product_30 ⟨Nat.zero_le _, Nat.zero_le _⟩ ?_
      refine g_gets (w := vR (some (Z 34))) X (gSt_E X 34 (by decide)) k_X6_product_f312 rfl dX6_product_33 ?_
      refine g_acmp_ne (tgt := 80) X dX6_product_36 (by decide) (fun hc => ?_) (fun hc => ?_)
      · have hf := ife_f hc hf
        obtain ⟨w20, hw20, hz20⟩ := oI_e hf
        subst hz20
        have hf := hw20
        refine g_sub (lvsub_of _ _ [] rfl) ?_
        exact t_X6_product_80 X hr hF _  _ hf hK
      · have hf := ife_t hc hf
        refine g_sub (lvsub_of _ _ [0, 1, 2] rfl) ?_
        exact t_X6_product_39 X hr hF _ _ _ _ _ hf hK
set_option maxHeartbeats 4000000 in
set_option maxRecDepth 100000 in
theorem tl_X6_product_12 (X : gX p s m args meth c D cy B (gSt Z B H0) RX6 cX6_product wsX6_product 4) (hr : meth.sig.returnType = (some .boolean)) {n0 : Nat} {F : Nat → gMem → Nat → Int32 → Option (Int32 × gMem)} (hF : hX6R l D cy B H0 Z n0 F) {Q : State → Prop} : ∀ (M : gMem) (x0 : Nat) (x1 : Int32) (x2 : Int32) (z : Int32 × gMem), lp_X6_product_12 Z F M x0 x1 x2 = some z → (fun (r : Int32 × gMem) => Q = gMQ below D cy B H0 args s 0 0 (some (vI r.1)) r.2) z → gGo p l e (rX6R (n0 + 1)) s m args below meth c D cy B H0 4 0 0 Q 12 [(0, vR (some x0)), (1, vI x1), (2, vI x2)] [] M := by
  intro M x0 x1 x2 z hf hK
  refine lp_ind (P := (fun (q : gMem × Int32) (z : Int32 × gMem) => (fun (r : Int32 × gMem) => Q = gMQ below D cy B H0 args s 0 0 (some (vI r.1)) r.2) z → gGo p l e (rX6R (n0 + 1)) s m args below meth c D cy B H0 4 0 0 Q 12 [(0, vR (some x0)), (1, vI x1), (2, vI q.2)] [] q.1)) (fun q z hq => ?_) _ _ hf hK
  intro hK
  obtain ⟨w, hw, hm⟩ := hq
  refine tb_X6_product_12 X hr hF _ _ _ _ w hw ?_
  cases w with
  | inl a => exact hm hK
  | inr b => cases hm; exact hK
set_option maxHeartbeats 4000000 in
set_option maxRecDepth 100000 in
theorem t_X6_product_0 (X : gX p s m args meth c D cy B (gSt Z B H0) RX6 cX6_product wsX6_product 4) (hr : meth.sig.returnType = (some .boolean)) {n0 : Nat} {F : Nat → gMem → Nat → Int32 → Option (Int32 × gMem)} (hF : hX6R l D cy B H0 Z n0 F) {Q : State → Prop} : ∀ (M : gMem) (x0 : Nat) (x1 : Int32) (z : Int32 × gMem), b_X6_product_0 Z F M x0 x1 = some z → (fun (r : Int32 × gMem) => Q = gMQ below D cy B H0 args s 0 0 (some (vI r.1)) r.2) z → gGo p l e (rX6R (n0 + 1)) s m args below meth c D cy B H0 4 0 0 Q 0 [(0, vR (some x0)), (1, vI x1)] [] M := by
  intro M x0 x1 z hf hK
  unfold b_X6_product_0 at hf
  refine g_aload_n X dX6_product_0 rfl rfl ?_
  refine g_iload_n X dX6_product_1 rfl rfl ?_
  obtain ⟨hT22, hf⟩ := ck_e hf
  obtain ⟨r21, M21, hq21, hf⟩ := bd_e hf
  refine g_callV (ci := 5) (b := x0) (As := [vI x1]) (st := []) (v := some (vI r21)) (M1 := M21) X (hF.2.2.2.2.2.2 _ _ _ _ _ hq21) (cwV 1 X.2.2.1 gX6_product_X6_value rfl rfl rfl (by decide +kernel) ⟨rX6R_rf, rX6R_rl (Nat.le_of_ble_eq_true rfl)⟩) rfl rfl rfl hT22 (by decide) rfl (Nat.le_of_ble_eq_true rfl) dX6_product_2 ⟨Nat.zero_le _, Nat.zero_le _⟩ ?_
  refine g_if_ne (tgt := 10) X dX6_product_5 (by decide) (fun hc => ?_) (fun hc => ?_)
  · have hf := ife_f hc hf
    refine g_iconst (v := (0 : Int32)) X dX6_product_10 (by decide) ?_
    refine g_istore_n (lv' := [(2, vI (0 : Int32)), (0, vR (some x0)), (1, vI x1)]) X dX6_product_11 rfl (by decide) rfl ?_
    refine g_sub (lvsub_of _ _ [1, 2, 0] rfl) ?_
    exact tl_X6_product_12 X hr hF _ _ _ _ _ hf hK
  · have hf := ife_t hc hf
    refine g_iconst (v := (0 : Int32)) X dX6_product_8 (by decide) ?_
    cases hf
    refine g_eqQ hK ?_
    exact g_zret X hr (gnb (Or.inl rfl)) dX6_product_9
set_option maxHeartbeats 4000000 in
set_option maxRecDepth 100000 in
theorem mr_X6_product (l : Launch) {D : va_G} {cy : Nat → ClassId} {B : Nat} {H0 : Heap} {Z : Nat → Nat} {M M1 : gMem} {n0 : Nat} {F : Nat → gMem → Nat → Int32 → Option (Int32 × gMem)} (hF : hX6R l D cy B H0 Z n0 F) {x0 : Nat} {x1 : Int32} {r : Int32} (hf : fr_X6_product Z F M x0 x1 = some (r, M1)) : Met l yX6_product wsX6_product (rX6R (n0 + 1)) (va_Pc (Value.ref x0 :: List.map gv [vI x1]) (gPre D cy B H0 (gSt Z B H0) M)) (gQ D cy B H0 (some (vI r)) M1) 0 0 (gA B) := by
  refine Met.ofW (cc := cX6_product) (maxL := 4) (ret := (some .boolean)) (by decide) rfl ?_
  intro p e s m args below meth c s₁ Bd hml hv
  obtain ⟨rfl, hW, hKK, hFs⟩ := hv
  have X : gX p s m _ meth c D cy B (gSt Z B H0) RX6 cX6_product wsX6_product 4 := ⟨Bd.exec, Bd.bytes, atoms_spec (ws := wsX6_product) Bd.pre, findClass_of_methodNamed Bd.named, hml, hKK, by rw [hW.1]; exact hW.2.1, Bd.notSynchronized, hFs⟩
  have hr := Bd.returns
  have hl := lv_entry ([.ref x0, .int x1]) (n := 4) (Nat.le_of_ble_eq_true rfl)
  show W p l e (rX6R (n0 + 1)) s m _ below meth c s.heap [] 0 0 _ (entryFrame m ([.ref x0, .int x1] : List Value).toArray 4)
  rw [lg_entry_eq]
  generalize (lg_sl ([.ref x0, .int x1]) ++ List.replicate (4 - (lg_sl ([.ref x0, .int x1])).length) Slot.unset).toArray = ls at hl ⊢
  have hl : lv_has ls 4 (List.map gq [(0, vR (some x0)), (1, vI x1)]) := hl
  exact t_X6_product_0 X hr hF _ _ _ _ hf rfl s.heap [] ls hW va_S.rf (lv_has_sub hl (lvsub_of _ _ [0, 1] rfl))
end
