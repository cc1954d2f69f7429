section
variable {p : Program} {l : Launch} {e : Env} {s : State} {m : MethodId} {args : Array Value} {below : List Frame} {meth : Method} {c : Code} {D : va_G} {cy : Nat → ClassId} {B : Nat} {H0 : Heap} {Z : Nat → Nat}
/-! ## TideLots$Tape.scanNumber(I)LTideLots$Sign; -/
theorem dX10_scanNumber_0 : decode cX10_scanNumber 0 = .ok (.aload_n 0, 1) := by decide +kernel
theorem dX10_scanNumber_1 : decode cX10_scanNumber 1 = .ok (.getfield 37, 3) := by decide +kernel
theorem dX10_scanNumber_4 : decode cX10_scanNumber 4 = .ok (.istore_n 2, 1) := by decide +kernel
theorem dX10_scanNumber_5 : decode cX10_scanNumber 5 = .ok (.lconst 0, 1) := by decide +kernel
theorem dX10_scanNumber_6 : decode cX10_scanNumber 6 = .ok (.lstore_n 3, 1) := by decide +kernel
theorem dX10_scanNumber_7 : decode cX10_scanNumber 7 = .ok (.aload_n 0, 1) := by decide +kernel
theorem dX10_scanNumber_8 : decode cX10_scanNumber 8 = .ok (.getfield 37, 3) := by decide +kernel
theorem dX10_scanNumber_11 : decode cX10_scanNumber 11 = .ok (.aload_n 0, 1) := by decide +kernel
theorem dX10_scanNumber_12 : decode cX10_scanNumber 12 = .ok (.getfield 33, 3) := by decide +kernel
theorem dX10_scanNumber_15 : decode cX10_scanNumber 15 = .ok (.if_icmp .ge 46, 3) := by decide +kernel
theorem dX10_scanNumber_18 : decode cX10_scanNumber 18 = .ok (.aload_n 0, 1) := by decide +kernel
theorem dX10_scanNumber_19 : decode cX10_scanNumber 19 = .ok (.aload_n 0, 1) := by decide +kernel
theorem dX10_scanNumber_20 : decode cX10_scanNumber 20 = .ok (.getfield 37, 3) := by decide +kernel
theorem dX10_scanNumber_23 : decode cX10_scanNumber 23 = .ok (.invokevirtual 61, 3) := by decide +kernel
theorem dX10_scanNumber_26 : decode cX10_scanNumber 26 = .ok (.ifCond .eq 35, 3) := by decide +kernel
theorem dX10_scanNumber_29 : decode cX10_scanNumber 29 = .ok (.lload_n 3, 1) := by decide +kernel
theorem dX10_scanNumber_30 : decode cX10_scanNumber 30 = .ok (.ldc2_w 80, 3) := by decide +kernel
theorem dX10_scanNumber_33 : decode cX10_scanNumber 33 = .ok (.lmul, 1) := by decide +kernel
theorem dX10_scanNumber_34 : decode cX10_scanNumber 34 = .ok (.aload_n 0, 1) := by decide +kernel
theorem dX10_scanNumber_35 : decode cX10_scanNumber 35 = .ok (.aload_n 0, 1) := by decide +kernel
theorem dX10_scanNumber_36 : decode cX10_scanNumber 36 = .ok (.getfield 37, 3) := by decide +kernel
theorem dX10_scanNumber_39 : decode cX10_scanNumber 39 = .ok (.invokevirtual 50, 3) := by decide +kernel
theorem dX10_scanNumber_42 : decode cX10_scanNumber 42 = .ok (.bipush 48, 2) := by decide +kernel
theorem dX10_scanNumber_44 : decode cX10_scanNumber 44 = .ok (.isub, 1) := by decide +kernel
theorem dX10_scanNumber_45 : decode cX10_scanNumber 45 = .ok (.i2l, 1) := by decide +kernel
theorem dX10_scanNumber_46 : decode cX10_scanNumber 46 = .ok (.ladd, 1) := by decide +kernel
theorem dX10_scanNumber_47 : decode cX10_scanNumber 47 = .ok (.lstore_n 3, 1) := by decide +kernel
theorem dX10_scanNumber_48 : decode cX10_scanNumber 48 = .ok (.aload_n 0, 1) := by decide +kernel
theorem dX10_scanNumber_49 : decode cX10_scanNumber 49 = .ok (.dup, 1) := by decide +kernel
theorem dX10_scanNumber_50 : decode cX10_scanNumber 50 = .ok (.getfield 37, 3) := by decide +kernel
theorem dX10_scanNumber_53 : decode cX10_scanNumber 53 = .ok (.iconst 1, 1) := by decide +kernel
theorem dX10_scanNumber_54 : decode cX10_scanNumber 54 = .ok (.iadd, 1) := by decide +kernel
theorem dX10_scanNumber_55 : decode cX10_scanNumber 55 = .ok (.putfield 37, 3) := by decide +kernel
theorem dX10_scanNumber_58 : decode cX10_scanNumber 58 = .ok (.goto (-51), 3) := by decide +kernel
theorem dX10_scanNumber_61 : decode cX10_scanNumber 61 = .ok (.aload_n 0, 1) := by decide +kernel
theorem dX10_scanNumber_62 : decode cX10_scanNumber 62 = .ok (.getfield 25, 3) := by decide +kernel
theorem dX10_scanNumber_65 : decode cX10_scanNumber 65 = .ok (.iload_n 1, 1) := by decide +kernel
theorem dX10_scanNumber_66 : decode cX10_scanNumber 66 = .ok (.lload_n 3, 1) := by decide +kernel
theorem dX10_scanNumber_67 : decode cX10_scanNumber 67 = .ok (.lastore, 1) := by decide +kernel
theorem dX10_scanNumber_68 : decode cX10_scanNumber 68 = .ok (.aload_n 0, 1) := by decide +kernel
theorem dX10_scanNumber_69 : decode cX10_scanNumber 69 = .ok (.getfield 37, 3) := by decide +kernel
theorem dX10_scanNumber_72 : decode cX10_scanNumber 72 = .ok (.iload_n 2, 1) := by decide +kernel
theorem dX10_scanNumber_73 : decode cX10_scanNumber 73 = .ok (.isub, 1) := by decide +kernel
theorem dX10_scanNumber_74 : decode cX10_scanNumber 74 = .ok (.bipush 6, 2) := by decide +kernel
theorem dX10_scanNumber_76 : decode cX10_scanNumber 76 = .ok (.if_icmp .le 9, 3) := by decide +kernel
theorem dX10_scanNumber_79 : decode cX10_scanNumber 79 = .ok (.getstatic 47, 3) := by decide +kernel
theorem dX10_scanNumber_82 : decode cX10_scanNumber 82 = .ok (.goto 6, 3) := by decide +kernel
theorem dX10_scanNumber_85 : decode cX10_scanNumber 85 = .ok (.getstatic 82, 3) := by decide +kernel
theorem dX10_scanNumber_88 : decode cX10_scanNumber 88 = .ok (.areturn, 1) := by decide +kernel
set_option maxRecDepth 20000 in
theorem ggX10_scanNumber_X10_isDigit : GoodIn wsX10_scanNumber wsX10_isDigit := goodIn_r _ [11, 12, 13, 14, 10, 15, 2, 16, 17, 18, 19, 20, 21, 22] (by decide +kernel) (by decide +kernel)
set_option maxRecDepth 20000 in
theorem gX10_scanNumber_X10_isDigit : GoodIn wsX10_scanNumber (wsV RX10 61 RX10 yX10_isDigit wsX10_isDigit) := goodIn_app (goodIn_of _ (by decide +kernel)) ggX10_scanNumber_X10_isDigit
set_option maxRecDepth 20000 in
theorem ggX10_scanNumber_X10_at : GoodIn wsX10_scanNumber wsX10_at := goodIn_r _ [15, 2, 16, 17, 18, 19, 20, 21, 22] (by decide +kernel) (by decide +kernel)
set_option maxRecDepth 20000 in
theorem gX10_scanNumber_X10_at : GoodIn wsX10_scanNumber (wsV RX10 50 RX10 yX10_at wsX10_at) := goodIn_app (goodIn_of _ (by decide +kernel)) ggX10_scanNumber_X10_at
theorem k_X10_scanNumber_f25 : Cond.fieldLink RX10 25 "TideLots$Tape" "values" "[J" ∈ wsX10_scanNumber := by decide +kernel
theorem i_X10_scanNumber_X10 : ∀ w ∈ u_ws RX10 TX10 6, w ∈ wsX10_scanNumber := by decide +kernel
theorem k_X10_scanNumber_f37 : Cond.fieldLink RX10 37 "TideLots$Tape" "end" "I" ∈ wsX10_scanNumber := by decide +kernel
theorem k_X10_scanNumber_f82 : Cond.fieldLink RX10 82 "TideLots$Sign" "NUMBER" "LTideLots$Sign;" ∈ wsX10_scanNumber := by decide +kernel
theorem k_X10_scanNumber_f47 : Cond.fieldLink RX10 47 "TideLots$Sign" "NO_TOKEN" "LTideLots$Sign;" ∈ wsX10_scanNumber := by decide +kernel
theorem k_X10_scanNumber_f33 : Cond.fieldLink RX10 33 "TideLots$Tape" "length" "I" ∈ wsX10_scanNumber := by decide +kernel
theorem k_X10_scanNumber_c80 : Jvm.Cond.constantLong RX10 80 (10) ∈ wsX10_scanNumber := by decide +kernel
abbrev rX10_scanNumber : Room := { frames := 2, cells := 0, slots := 0, locals := 42 }
noncomputable def b_X10_scanNumber_88 (Z : Nat → Nat) (M : gMem) (s0 : Option Nat) : Option (Option Nat × gMem) :=
  some (s0, M)
noncomputable def b_X10_scanNumber_61 (Z : Nat → Nat) (M : gMem) (x0 : Nat) (x1 : Int32) (x2 : Int32) (x3 : Int64) : Option (Option Nat × gMem) :=
  ck (mT M x0 = 9) <| dr ((mR M x0 4)) fun a2 => ck (mT M a2 = 21) <| ck (inb x1 (mL M a2)) <| lw (wJ M a2 x1.toNatClampNeg x3) fun M5 => (if ((mI M5 x0 5) - x2) ≤ (6 : Int32) then b_X10_scanNumber_88 Z M5 ((some (Z 41))) else b_X10_scanNumber_88 Z M5 ((some (Z 43))))
noncomputable def bb_X10_scanNumber_7 (Z : Nat → Nat) (M : gMem) (x0 : Nat) (x1 : Int32) (x2 : Int32) (x3 : Int64) : Option ((gMem × Int64) ⊕ (Option Nat × gMem)) :=
  ck (mT M x0 = 9) <| (if (mI M x0 0) ≤ (mI M x0 5) then oI (b_X10_scanNumber_61 Z M x0 x1 x2 x3) else bd (f_X10_isDigit M x0 ((mI M x0 5))) fun r10 M10 => (if r10 = 0 then oI (b_X10_scanNumber_61 Z M10 x0 x1 x2 x3) else ck (mT M10 x0 = 9) <| bd (f_X10_at M10 x0 ((mI M10 x0 5))) fun r13 M13 => ck (mT M13 x0 = 9) <| lw (wI M13 x0 5 (((mI M13 x0 5) + (1 : Int32)))) fun M15 => some (.inl (M15, ((x3 * (10 : Int64)) + (Int32.toInt64 (r13 - (48 : Int32))))))))
noncomputable def lp_X10_scanNumber_7 (Z : Nat → Nat) (M : gMem) (x0 : Nat) (x1 : Int32) (x2 : Int32) (x3 : Int64) : Option (Option Nat × gMem) :=
  lp (fun (q : gMem × Int64) => bb_X10_scanNumber_7 Z q.1 x0 x1 x2 q.2) (M, x3)
noncomputable def b_X10_scanNumber_0 (Z : Nat → Nat) (M : gMem) (x0 : Nat) (x1 : Int32) : Option (Option Nat × gMem) :=
  ck (mT M x0 = 9) <| lp_X10_scanNumber_7 Z M x0 x1 ((mI M x0 5)) ((0 : Int64))
noncomputable def f_X10_scanNumber (Z : Nat → Nat) (M : gMem) (x0 : Nat) (x1 : Int32) : Option (Option Nat × gMem) :=
  b_X10_scanNumber_0 Z M x0 x1
set_option maxHeartbeats 4000000 in
set_option maxRecDepth 100000 in
theorem t_X10_scanNumber_88 (X : gX p s m args meth c D cy B (gSt Z B H0) RX10 cX10_scanNumber wsX10_scanNumber 5) (hr : meth.sig.returnType = (some (.object "TideLots$Sign"))) {Q : State → Prop} : ∀ (M : gMem) (s0 : Option Nat) (z : Option Nat × gMem), b_X10_scanNumber_88 Z M s0 = some z → (fun (r : Option Nat × gMem) => Q = gMQ below D cy B H0 args s 0 0 (some (vR r.1)) r.2) z → gGo p l e rX10_scanNumber s m args below meth c D cy B H0 5 0 0 Q 88 [] [vR s0] M := by
  intro M s0 z hf hK
  unfold b_X10_scanNumber_88 at hf
  cases hf
  refine g_eqQ hK ?_
  exact g_aret X hr (Or.inl ⟨_, rfl⟩) dX10_scanNumber_88
set_option maxHeartbeats 4000000 in
set_option maxRecDepth 100000 in
theorem t_X10_scanNumber_61 (X : gX p s m args meth c D cy B (gSt Z B H0) RX10 cX10_scanNumber wsX10_scanNumber 5) (hr : meth.sig.returnType = (some (.object "TideLots$Sign"))) {Q : State → Prop} : ∀ (M : gMem) (x0 : Nat) (x1 : Int32) (x2 : Int32) (x3 : Int64) (z : Option Nat × gMem), b_X10_scanNumber_61 Z M x0 x1 x2 x3 = some z → (fun (r : Option Nat × gMem) => Q = gMQ below D cy B H0 args s 0 0 (some (vR r.1)) r.2) z → gGo p l e rX10_scanNumber s m args below meth c D cy B H0 5 0 0 Q 61 [(0, vR (some x0)), (1, vI x1), (2, vI x2), (3, vJ x3)] [] M := by
  intro M x0 x1 x2 x3 z hf hK
  unfold b_X10_scanNumber_61 at hf
  refine g_aload_n X dX10_scanNumber_61 rfl rfl ?_
  obtain ⟨hT1, hf⟩ := ck_e hf
  refine g_get (ci := 8) (v := vR (mR M x0 4)) 4 X cdX10 i_X10_scanNumber_X10 (by decide) k_X10_scanNumber_f25 rfl dX10_scanNumber_62 rfl hT1 rfl ?_
  refine g_iload_n X dX10_scanNumber_65 rfl rfl ?_
  refine g_lload_n X dX10_scanNumber_66 rfl rfl ?_
  obtain ⟨a2, ha2, hf⟩ := dr_e hf
  obtain ⟨hT3, hf⟩ := ck_e hf
  obtain ⟨hg4, hf⟩ := ck_e hf
  refine g_last X dX10_scanNumber_67 ha2 hT3 hg4 ?_
  obtain ⟨M5, hM5, hf⟩ := lw_e hf
  rw [← hM5]
  have hT6 : mT M5 x0 = 9 := by rw [hM5]; exact hT1
  have hT7 : mT M5 a2 = 21 := by rw [hM5]; exact hT3
  refine g_aload_n X dX10_scanNumber_68 rfl rfl ?_
  refine g_get (ci := 8) (v := vI (mI M5 x0 5)) 5 X cdX10 i_X10_scanNumber_X10 (by decide) k_X10_scanNumber_f37 rfl dX10_scanNumber_69 rfl hT6 rfl ?_
  refine g_iload_n X dX10_scanNumber_72 rfl rfl ?_
  refine g_isub X dX10_scanNumber_73 ?_
  refine g_bipush (v := (6 : Int32)) X dX10_scanNumber_74 (by decide) ?_
  refine g_icmp_le (tgt := 85) X dX10_scanNumber_76 (by decide) (fun hc => ?_) (fun hc => ?_)
  · have hf := ife_t hc hf
    refine g_gets (w := vR (some (Z 41))) X (gSt_E X 41 (by decide)) k_X10_scanNumber_f82 rfl dX10_scanNumber_85 ?_
    refine g_sub (lvsub_of _ _ [] rfl) ?_
    exact t_X10_scanNumber_88 X hr _ _ _ hf hK
  · have hf := ife_f hc hf
    refine g_gets (w := vR (some (Z 43))) X (gSt_E X 43 (by decide)) k_X10_scanNumber_f47 rfl dX10_scanNumber_79 ?_
    refine g_goto (tgt := 88) X dX10_scanNumber_82 (by decide) ?_
    refine g_sub (lvsub_of _ _ [] rfl) ?_
    exact t_X10_scanNumber_88 X hr _ _ _ hf hK
set_option maxHeartbeats 4000000 in
set_option maxRecDepth 100000 in
theorem tb_X10_scanNumber_7 (X : gX p s m args meth c D cy B (gSt Z B H0) RX10 cX10_scanNumber wsX10_scanNumber 5) (hr : meth.sig.returnType = (some (.object "TideLots$Sign"))) {Q : State → Prop} : ∀ (M : gMem) (x0 : Nat) (x1 : Int32) (x2 : Int32) (x3 : Int64) (z : (gMem × Int64) ⊕ (Option Nat × gMem)), bb_X10_scanNumber_7 Z M x0 x1 x2 x3 = some z → (Sum.elim (fun (q : gMem × Int64) => gGo p l e rX10_scanNumber s m args below meth c D cy B H0 5 0 0 Q 7 [(0, vR (some x0)), (1, vI x1), (2, vI x2), (3, vJ q.2)] [] q.1) (fun (r : Option Nat × gMem) => Q = gMQ below D cy B H0 args s 0 0 (some (vR r.1)) r.2)) z → gGo p l e rX10_scanNumber s m args below meth c D cy B H0 5 0 0 Q 7 [(0, vR (some x0)), (1, vI x1), (2, vI x2), (3, vJ x3)] [] M := by
  intro M x0 x1 x2 x3 z hf hK
  unfold bb_X10_scanNumber_7 at hf
  refine g_aload_n X dX10_scanNumber_7 rfl rfl ?_
  obtain ⟨hT8, hf⟩ := ck_e hf
  refine g_get (ci := 8) (v := vI (mI M x0 5)) 5 X cdX10 i_X10_scanNumber_X10 (by decide) k_X10_scanNumber_f37 rfl dX10_scanNumber_8 rfl hT8 rfl ?_
  refine g_aload_n X dX10_scanNumber_11 rfl rfl ?_
  refine g_get (ci := 8) (v := vI (mI M x0 0)) 0 X cdX10 i_X10_scanNumber_X10 (by decide) k_X10_scanNumber_f33 rfl dX10_scanNumber_12 rfl hT8 rfl ?_
  refine g_icmp_ge (tgt := 61) X dX10_scanNumber_15 (by decide) (fun hc => ?_) (fun hc => ?_)
  · have hf := ife_t hc hf
    obtain ⟨w9, hw9, hz9⟩ := oI_e hf
    subst hz9
    have hf := hw9
    refine g_sub (lvsub_of _ _ [0, 1, 2, 3] rfl) ?_
    exact t_X10_scanNumber_61 X hr _ _ _ _ _ _ hf hK
  · have hf := ife_f hc hf
    refine g_aload_n X dX10_scanNumber_18 rfl rfl ?_
    refine g_aload_n X dX10_scanNumber_19 rfl rfl ?_
    refine g_get (ci := 8) (v := vI (mI M x0 5)) 5 X cdX10 i_X10_scanNumber_X10 (by decide) k_X10_scanNumber_f37 rfl dX10_scanNumber_20 rfl hT8 rfl ?_
    obtain ⟨r10, M10, hq10, hf⟩ := bd_e hf
    refine g_callV (ci := 8) (b := x0) (As := [vI (mI M x0 5)]) (st := []) (v := some (vI r10)) (M1 := M10) X (m_X10_isDigit l hq10) (cwV 1 X.2.2.1 gX10_scanNumber_X10_isDigit rfl rfl rfl (by decide +kernel) ⟨Nat.le_of_ble_eq_true rfl, Nat.le_of_ble_eq_true rfl⟩) rfl rfl rfl hT8 (by decide) rfl (Nat.le_of_ble_eq_true rfl) dX10_scanNumber_23 ⟨by decide, by decide⟩ ?_
    refine g_if_eq (tgt := 61) X dX10_scanNumber_26 (by decide) (fun hc => ?_) (fun hc => ?_)
    · have hf := ife_t hc hf
      obtain ⟨w11, hw11, hz11⟩ := oI_e hf
      subst hz11
      have hf := hw11
      refine g_sub (lvsub_of _ _ [0, 1, 2, 3] rfl) ?_
      exact t_X10_scanNumber_61 X hr _ _ _ _ _ _ hf hK
    · have hf := ife_f hc hf
      refine g_lload_n X dX10_scanNumber_29 rfl rfl ?_
      refine g_ldc2 (v := (10 : Int64)) X k_X10_scanNumber_c80 dX10_scanNumber_30 ?_
      refine g_lmul X dX10_scanNumber_33 ?_
      refine g_aload_n X dX10_scanNumber_34 rfl rfl ?_
      refine g_aload_n X dX10_scanNumber_35 rfl rfl ?_
      obtain ⟨hT12, hf⟩ := ck_e hf
      refine g_get (ci := 8) (v := vI (mI M10 x0 5)) 5 X cdX10 i_X10_scanNumber_X10 (by decide) k_X10_scanNumber_f37 rfl dX10_scanNumber_36 rfl hT12 rfl ?_
      obtain ⟨r13, M13, hq13, hf⟩ := bd_e hf
      refine g_callV (ci := 8) (b := x0) (As := [vI (mI M10 x0 5)]) (st := [vJ (x3 * (10 : Int64))]) (v := some (vI r13)) (M1 := M13) X (m_X10_at l hq13) (cwV 1 X.2.2.1 gX10_scanNumber_X10_at rfl rfl rfl (by decide +kernel) ⟨Nat.le_of_ble_eq_true rfl, Nat.le_of_ble_eq_true rfl⟩) rfl rfl rfl hT12 (by decide) rfl (Nat.le_of_ble_eq_true rfl) dX10_scanNumber_39 ⟨by decide, by decide⟩ ?_
      refine g_bipush (v := (48 : Int32)) X dX10_scanNumber_42 (by decide) ?_
      refine g_isub X dX10_scanNumber_44 ?_
      refine g_i2l X dX10_scanNumber_45 ?_
      refine g_ladd X dX10_scanNumber_46 ?_
      refine g_lstore_n (lv' := [(3, vJ ((x3 * (10 : Int64)) + (Int32.toInt64 (r13 - (48 : Int32))))), (0, vR (some x0)), (1, vI x1), (2, vI x2)]) X dX10_scanNumber_47 rfl (by decide) rfl ?_
      refine g_aload_n X dX10_scanNumber_48 rfl rfl ?_
      refine g_dup X dX10_scanNumber_49 rfl ?_
      obtain ⟨hT14, hf⟩ := ck_e hf
      refine g_get (ci := 8) (v := vI (mI M13 x0 5)) 5 X cdX10 i_X10_scanNumber_X10 (by decide) k_X10_scanNumber_f37 rfl dX10_scanNumber_50 rfl hT14 rfl ?_
      refine g_iconst (v := (1 : Int32)) X dX10_scanNumber_53 (by decide) ?_
      refine g_iadd X dX10_scanNumber_54 ?_
      refine g_putI (ci := 8) 5 X cdX10 i_X10_scanNumber_X10 (by decide) k_X10_scanNumber_f37 rfl dX10_scanNumber_55 rfl hT14 (Or.inl rfl) rfl rfl rfl ?_
      obtain ⟨M15, hM15, hf⟩ := lw_e hf
      rw [← hM15]
      have hT16 : mT M15 x0 = 9 := by rw [hM15]; exact hT14
      refine g_goto (tgt := 7) X dX10_scanNumber_58 (by decide) ?_
      cases hf
      refine g_sub (lvsub_of _ _ [1, 2, 3, 0] rfl) ?_
      exact hK
set_option maxHeartbeats 4000000 in
set_option maxRecDepth 100000 in
theorem tl_X10_scanNumber_7 (X : gX p s m args meth c D cy B (gSt Z B H0) RX10 cX10_scanNumber wsX10_scanNumber 5) (hr : meth.sig.returnType = (some (.object "TideLots$Sign"))) {Q : State → Prop} : ∀ (M : gMem) (x0 : Nat) (x1 : Int32) (x2 : Int32) (x3 : Int64) (z : Option Nat × gMem), lp_X10_scanNumber_7 Z M x0 x1 x2 x3 = some z → (fun (r : Option Nat × gMem) => Q = gMQ below D cy B H0 args s 0 0 (some (vR r.1)) r.2) z → gGo p l e rX10_scanNumber s m args below meth c D cy B H0 5 0 0 Q 7 [(0, vR (some x0)), (1, vI x1), (2, vI x2), (3, vJ x3)] [] M := by
  intro M x0 x1 x2 x3 z hf hK
  refine lp_ind (P := (fun (q : gMem × Int64) (z : Option Nat × gMem) => (fun (r : Option Nat × gMem) => Q = gMQ below D cy B H0 args s 0 0 (some (vR r.1)) r.2) z → gGo p l e rX10_scanNumber s m args below meth c D cy B H0 5 0 0 Q 7 [(0, vR (some x0)), (1, vI x1), (2, vI x2), (3, vJ q.2)] [] q.1)) (fun q z hq => ?_) _ _ hf hK
  intro hK
  obtain ⟨w, hw, hm⟩ := hq
  refine tb_X10_scanNumber_7 X hr _ _ _ _ _ w hw ?_
  cases w with
  | inl a => exact hm hK
  | inr b => cases hm; exact hK
set_option maxHeartbeats 4000000 in
set_option maxRecDepth 100000 in
theorem t_X10_scanNumber_0 (X : gX p s m args meth c D cy B (gSt Z B H0) RX10 cX10_scanNumber wsX10_scanNumber 5) (hr : meth.sig.returnType = (some (.object "TideLots$Sign"))) {Q : State → Prop} : ∀ (M : gMem) (x0 : Nat) (x1 : Int32) (z : Option Nat × gMem), b_X10_scanNumber_0 Z M x0 x1 = some z → (fun (r : Option Nat × gMem) => Q = gMQ below D cy B H0 args s 0 0 (some (vR r.1)) r.2) z → gGo p l e rX10_scanNumber s m args below meth c D cy B H0 5 0 0 Q 0 [(0, vR (some x0)), (1, vI x1)] [] M := by
  intro M x0 x1 z hf hK
  unfold b_X10_scanNumber_0 at hf
  refine g_aload_n X dX10_scanNumber_0 rfl rfl ?_
  obtain ⟨hT17, hf⟩ := ck_e hf
  refine g_get (ci := 8) (v := vI (mI M x0 5)) 5 X cdX10 i_X10_scanNumber_X10 (by decide) k_X10_scanNumber_f37 rfl dX10_scanNumber_1 rfl hT17 rfl ?_
  refine g_istore_n (lv' := [(2, vI (mI M x0 5)), (0, vR (some x0)), (1, vI x1)]) X dX10_scanNumber_4 rfl (by decide) rfl ?_
  refine g_lconst (v := (0 : Int64)) X dX10_scanNumber_5 (by decide) ?_
  refine g_lstore_n (lv' := [(3, vJ (0 : Int64)), (2, vI (mI M x0 5)), (0, vR (some x0)), (1, vI x1)]) X dX10_scanNumber_6 rfl (by decide) rfl ?_
  refine g_sub (lvsub_of _ _ [2, 3, 1, 0] rfl) ?_
  exact tl_X10_scanNumber_7 X hr _ _ _ _ _ _ hf hK
set_option maxHeartbeats 4000000 in
set_option maxRecDepth 100000 in
theorem m_X10_scanNumber (l : Launch) {D : va_G} {cy : Nat → ClassId} {B : Nat} {H0 : Heap} {Z : Nat → Nat} {M M1 : gMem} {x0 : Nat} {x1 : Int32} {r : Option Nat} (hf : f_X10_scanNumber Z M x0 x1 = some (r, M1)) : Met l yX10_scanNumber wsX10_scanNumber rX10_scanNumber (va_Pc (Value.ref x0 :: List.map gv [vI x1]) (gPre D cy B H0 (gSt Z B H0) M)) (gQ D cy B H0 (some (vR r)) M1) 0 0 (gA B) := by
  refine Met.ofW (cc := cX10_scanNumber) (maxL := 5) (ret := (some (.object "TideLots$Sign"))) (by decide) rfl ?_
  intro p e s m args below meth c s₁ Bd hml hv
  obtain ⟨rfl, hW, hKK, hFs⟩ := hv
  have X : gX p s m _ meth c D cy B (gSt Z B H0) RX10 cX10_scanNumber wsX10_scanNumber 5 := ⟨Bd.exec, Bd.bytes, atoms_spec (ws := wsX10_scanNumber) Bd.pre, findClass_of_methodNamed Bd.named, hml, hKK, by rw [hW.1]; exact hW.2.1, Bd.notSynchronized, hFs⟩
  have hr := Bd.returns
  have hl := lv_entry ([.ref x0, .int x1]) (n := 5) (Nat.le_of_ble_eq_true rfl)
  show W p l e rX10_scanNumber s m _ below meth c s.heap [] 0 0 _ (entryFrame m ([.ref x0, .int x1] : List Value).toArray 5)
  rw [lg_entry_eq]
  generalize (lg_sl ([.ref x0, .int x1]) ++ List.replicate (5 - (lg_sl ([.ref x0, .int x1])).length) Slot.unset).toArray = ls at hl ⊢
  have hl : lv_has ls 5 (List.map gq [(0, vR (some x0)), (1, vI x1)]) := hl
  exact t_X10_scanNumber_0 X hr _ _ _ _ hf rfl s.heap [] ls hW va_S.rf (lv_has_sub hl (lvsub_of _ _ [0, 1] rfl))
/-! ## TideLots$Tape.scanToken(I)LTideLots$Sign; -/
theorem dX10_scanToken_0 : decode cX10_scanToken 0 = .ok (.aload_n 0, 1) := by decide +kernel
theorem dX10_scanToken_1 : decode cX10_scanToken 1 = .ok (.getfield 37, 3) := by decide +kernel
theorem dX10_scanToken_4 : decode cX10_scanToken 4 = .ok (.aload_n 0, 1) := by decide +kernel
theorem dX10_scanToken_5 : decode cX10_scanToken 5 = .ok (.getfield 33, 3) := by decide +kernel
theorem dX10_scanToken_8 : decode cX10_scanToken 8 = .ok (.if_icmp .lt 7, 3) := by decide +kernel
theorem dX10_scanToken_11 : decode cX10_scanToken 11 = .ok (.getstatic 29, 3) := by decide +kernel
theorem dX10_scanToken_14 : decode cX10_scanToken 14 = .ok (.areturn, 1) := by decide +kernel
theorem dX10_scanToken_15 : decode cX10_scanToken 15 = .ok (.aload_n 0, 1) := by decide +kernel
theorem dX10_scanToken_16 : decode cX10_scanToken 16 = .ok (.aload_n 0, 1) := by decide +kernel
theorem dX10_scanToken_17 : decode cX10_scanToken 17 = .ok (.getfield 37, 3) := by decide +kernel
theorem dX10_scanToken_20 : decode cX10_scanToken 20 = .ok (.invokevirtual 54, 3) := by decide +kernel
theorem dX10_scanToken_23 : decode cX10_scanToken 23 = .ok (.ifCond .eq 9, 3) := by decide +kernel
theorem dX10_scanToken_26 : decode cX10_scanToken 26 = .ok (.aload_n 0, 1) := by decide +kernel
theorem dX10_scanToken_27 : decode cX10_scanToken 27 = .ok (.iload_n 1, 1) := by decide +kernel
theorem dX10_scanToken_28 : decode cX10_scanToken 28 = .ok (.invokevirtual 58, 3) := by decide +kernel
theorem dX10_scanToken_31 : decode cX10_scanToken 31 = .ok (.areturn, 1) := by decide +kernel
theorem dX10_scanToken_32 : decode cX10_scanToken 32 = .ok (.aload_n 0, 1) := by decide +kernel
theorem dX10_scanToken_33 : decode cX10_scanToken 33 = .ok (.aload_n 0, 1) := by decide +kernel
theorem dX10_scanToken_34 : decode cX10_scanToken 34 = .ok (.getfield 37, 3) := by decide +kernel
theorem dX10_scanToken_37 : decode cX10_scanToken 37 = .ok (.invokevirtual 61, 3) := by decide +kernel
theorem dX10_scanToken_40 : decode cX10_scanToken 40 = .ok (.ifCond .eq 11, 3) := by decide +kernel
theorem dX10_scanToken_43 : decode cX10_scanToken 43 = .ok (.aload_n 0, 1) := by decide +kernel
theorem dX10_scanToken_44 : decode cX10_scanToken 44 = .ok (.iload_n 1, 1) := by decide +kernel
theorem dX10_scanToken_45 : decode cX10_scanToken 45 = .ok (.invokevirtual 64, 3) := by decide +kernel
theorem dX10_scanToken_48 : decode cX10_scanToken 48 = .ok (.goto 7, 3) := by decide +kernel
theorem dX10_scanToken_51 : decode cX10_scanToken 51 = .ok (.aload_n 0, 1) := by decide +kernel
theorem dX10_scanToken_52 : decode cX10_scanToken 52 = .ok (.invokevirtual 67, 3) := by decide +kernel
theorem dX10_scanToken_55 : decode cX10_scanToken 55 = .ok (.areturn, 1) := by decide +kernel
set_option maxRecDepth 20000 in
theorem ggX10_scanToken_X10_isLetter : GoodIn wsX10_scanToken wsX10_isLetter := goodIn_r _ [8, 9, 10, 11, 7, 12, 2, 13, 94, 95, 96, 97, 98, 99] (by decide +kernel) (by decide +kernel)
set_option maxRecDepth 20000 in
theorem gX10_scanToken_X10_isLetter : GoodIn wsX10_scanToken (wsV RX10 54 RX10 yX10_isLetter wsX10_isLetter) := goodIn_app (goodIn_of _ (by decide +kernel)) ggX10_scanToken_X10_isLetter
set_option maxRecDepth 20000 in
theorem ggX10_scanToken_X10_isDigit : GoodIn wsX10_scanToken wsX10_isDigit := goodIn_r _ [25, 9, 10, 11, 7, 12, 2, 13, 94, 95, 96, 97, 98, 99] (by decide +kernel) (by decide +kernel)
set_option maxRecDepth 20000 in
theorem gX10_scanToken_X10_isDigit : GoodIn wsX10_scanToken (wsV RX10 61 RX10 yX10_isDigit wsX10_isDigit) := goodIn_app (goodIn_of _ (by decide +kernel)) ggX10_scanToken_X10_isDigit
set_option maxRecDepth 20000 in
theorem ggX10_scanToken_X10_scanSymbol : GoodIn wsX10_scanToken wsX10_scanSymbol := goodIn_2 24 (goodIn_r _ [93, 1, 20, 26, 27, 28, 7, 29, 30, 31, 32, 33, 34, 35, 36, 37, 38, 39, 40, 41, 42, 43, 44, 45] (by decide +kernel) (by decide +kernel)) (goodIn_2 24 (goodIn_r _ [46, 9, 10, 11, 12, 2, 13, 47, 48, 49, 50, 51, 52, 53, 54, 55, 56, 57, 58, 59, 60, 61, 62, 63] (by decide +kernel) (by decide +kernel)) (goodIn_2 24 (goodIn_r _ [64, 65, 66, 67, 68, 69, 70, 71, 72, 73, 74, 75, 76, 77, 78, 79, 80, 81, 82, 83, 94, 95, 96, 97] (by decide +kernel) (by decide +kernel)) (goodIn_r _ [98, 99, 100, 101, 102, 103] (by decide +kernel) (by decide +kernel))))
set_option maxRecDepth 20000 in
theorem gX10_scanToken_X10_scanSymbol : GoodIn wsX10_scanToken (wsV RX10 67 RX10 yX10_scanSymbol wsX10_scanSymbol) := goodIn_app (goodIn_of _ (by decide +kernel)) ggX10_scanToken_X10_scanSymbol
set_option maxRecDepth 20000 in
theorem ggX10_scanToken_X10_scanNumber : GoodIn wsX10_scanToken wsX10_scanNumber := goodIn_r _ [87, 1, 2, 88, 19, 20, 89, 22, 23, 24, 7, 25, 9, 10, 11, 12, 13, 94, 95, 96, 97, 98, 99] (by decide +kernel) (by decide +kernel)
set_option maxRecDepth 20000 in
theorem gX10_scanToken_X10_scanNumber : GoodIn wsX10_scanToken (wsV RX10 64 RX10 yX10_scanNumber wsX10_scanNumber) := goodIn_app (goodIn_of _ (by decide +kernel)) ggX10_scanToken_X10_scanNumber
set_option maxRecDepth 20000 in
theorem ggX10_scanToken_X10_scanWord : GoodIn wsX10_scanToken wsX10_scanWord := goodIn_2 24 (goodIn_r _ [17, 1, 2, 18, 19, 20, 21, 4, 5, 6, 7, 8, 9, 10, 11, 12, 13, 22, 23, 24, 25, 26, 27, 28] (by decide +kernel) (by decide +kernel)) (goodIn_2 24 (goodIn_r _ [29, 30, 31, 32, 33, 34, 35, 36, 37, 38, 39, 40, 41, 42, 43, 44, 45, 46, 47, 48, 49, 50, 51, 52] (by decide +kernel) (by decide +kernel)) (goodIn_2 24 (goodIn_r _ [53, 54, 55, 56, 57, 58, 59, 60, 61, 62, 63, 64, 65, 66, 67, 68, 69, 70, 71, 72, 73, 74, 75, 76] (by decide +kernel) (by decide +kernel)) (goodIn_r _ [77, 78, 79, 80, 81, 82, 83, 94, 95, 96, 97, 98, 99, 100, 101, 102, 103] (by decide +kernel) (by decide +kernel))))
set_option maxRecDepth 20000 in
theorem gX10_scanToken_X10_scanWord : GoodIn wsX10_scanToken (wsV RX10 58 RX10 yX10_scanWord wsX10_scanWord) := goodIn_app (goodIn_of _ (by decide +kernel)) ggX10_scanToken_X10_scanWord
theorem k_X10_scanToken_f37 : Cond.fieldLink RX10 37 "TideLots$Tape" "end" "I" ∈ wsX10_scanToken := by decide +kernel
theorem i_X10_scanToken_X10 : ∀ w ∈ u_ws RX10 TX10 6, w ∈ wsX10_scanToken := by decide +kernel
theorem k_X10_scanToken_f33 : Cond.fieldLink RX10 33 "TideLots$Tape" "length" "I" ∈ wsX10_scanToken := by decide +kernel
theorem k_X10_scanToken_f29 : Cond.fieldLink RX10 29 "TideLots$Sign" "END" "LTideLots$Sign;" ∈ wsX10_scanToken := by decide +kernel
abbrev rX10_scanToken : Room := { frames := 7, cells := 0, slots := 0, locals := 161 }
noncomputable def b_X10_scanToken_55 (Z : Nat → Nat) (M : gMem) (s0 : Option Nat) : Option (Option Nat × gMem) :=
  some (s0, M)
noncomputable def b_X10_scanToken_0 (Z : Nat → Nat) (M : gMem) (x0 : Nat) (x1 : Int32) : Option (Option Nat × gMem) :=
  ck (mT M x0 = 9) <| (if (mI M x0 5) < (mI M x0 0) then bd (f_X10_isLetter M x0 ((mI M x0 5))) fun r2 M2 => (if r2 = 0 then ck (mT M2 x0 = 9) <| bd (f_X10_isDigit M2 x0 ((mI M2 x0 5))) fun r4 M4 => (if r4 = 0 then ck (mT M4 x0 = 9) <| bd (f_X10_scanSymbol Z M4 x0) fun r5 M5 => b_X10_scanToken_55 Z M5 r5 else ck (mT M4 x0 = 9) <| bd (f_X10_scanNumber Z M4 x0 x1) fun r7 M7 => b_X10_scanToken_55 Z M7 r7) else ck (mT M2 x0 = 9) <| bd (f_X10_scanWord Z M2 x0 x1) fun r9 M9 => some (r9, M9)) else some ((some (Z 42)), M))
noncomputable def f_X10_scanToken (Z : Nat → Nat) (M : gMem) (x0 : Nat) (x1 : Int32) : Option (Option Nat × gMem) :=
  b_X10_scanToken_0 Z M x0 x1
set_option maxHeartbeats 4000000 in
set_option maxRecDepth 100000 in
theorem t_X10_scanToken_55 (X : gX p s m args meth c D cy B (gSt Z B H0) RX10 cX10_scanToken wsX10_scanToken 2) (hr : meth.sig.returnType = (some (.object "TideLots$Sign"))) {Q : State → Prop} : ∀ (M : gMem) (s0 : Option Nat) (z : Option Nat × gMem), b_X10_scanToken_55 Z M s0 = some z → (fun (r : Option Nat × gMem) => Q = gMQ below D cy B H0 args s 0 0 (some (vR r.1)) r.2) z → gGo p l e rX10_scanToken s m args below meth c D cy B H0 2 0 0 Q 55 [] [vR s0] M := by
  intro M s0 z hf hK
  unfold b_X10_scanToken_55 at hf
  cases hf
  refine g_eqQ hK ?_
  exact g_aret X hr (Or.inl ⟨_, rfl⟩) dX10_scanToken_55
set_option maxHeartbeats 4000000 in
set_option maxRecDepth 100000 in
theorem t_X10_scanToken_0 (X : gX p s m args meth c D cy B (gSt Z B H0) RX10 cX10_scanToken wsX10_scanToken 2) (hr : meth.sig.returnType = (some (.object "TideLots$Sign"))) {Q : State → Prop} : ∀ (M : gMem) (x0 : Nat) (x1 : Int32) (z : Option Nat × gMem), b_X10_scanToken_0 Z M x0 x1 = some z → (fun (r : Option Nat × gMem) => Q = gMQ below D cy B H0 args s 0 0 (some (vR r.1)) r.2) z → gGo p l e rX10_scanToken s m args below meth c D cy B H0 2 0 0 Q 0 [(0, vR (some x0)), (1, vI x1)] [] M := by
  intro M x0 x1 z hf hK
  unfold b_X10_scanToken_0 at hf
  refine g_aload_n X dX10_scanToken_0 rfl rfl ?_
  obtain ⟨hT1, hf⟩ := ck_e hf
  refine g_get (ci := 8) (v := vI (mI M x0 5)) 5 X cdX10 i_X10_scanToken_X10 (by decide) k_X10_scanToken_f37 rfl dX10_scanToken_1 rfl hT1 rfl ?_
  refine g_aload_n X dX10_scanToken_4 rfl rfl ?_
  refine g_get (ci := 8) (v := vI (mI M x0 0)) 0 X cdX10 i_X10_scanToken_X10 (by decide) k_X10_scanToken_f33 rfl dX10_scanToken_5 rfl hT1 rfl ?_
  refine g_icmp_lt (tgt := 15) X dX10_scanToken_8 (by decide) (fun hc => ?_) (fun hc => ?_)
  · have hf := ife_t hc hf
    refine g_aload_n X dX10_scanToken_15 rfl rfl ?_
    refine g_aload_n X dX10_scanToken_16 rfl rfl ?_
    refine g_get (ci := 8) (v := vI (mI M x0 5)) 5 X cdX10 i_X10_scanToken_X10 (by decide) k_X10_scanToken_f37 rfl dX10_scanToken_17 rfl hT1 rfl ?_
    obtain ⟨r2, M2, hq2, hf⟩ := bd_e hf
    refine g_callV (ci := 8) (b := x0) (As := [vI (mI M x0 5)]) (st := []) (v := some (vI r2)) (M1 := M2) X (m_X10_isLetter l hq2) (cwV 1 X.2.2.1 gX10_scanToken_X10_isLetter rfl rfl rfl (by decide +kernel) ⟨Nat.le_of_ble_eq_true rfl, Nat.le_of_ble_eq_true rfl⟩) rfl rfl rfl hT1 (by decide) rfl (Nat.le_of_ble_eq_true rfl) dX10_scanToken_20 ⟨by decide, by decide⟩ ?_
    refine g_if_eq (tgt := 32) X dX10_scanToken_23 (by decide) (fun hc => ?_) (fun hc => ?_)
    · have hf := ife_t hc hf
      refine g_aload_n X dX10_scanToken_32 rfl rfl ?_
      refine g_aload_n X dX10_scanToken_33 rfl rfl ?_
      obtain ⟨hT3, hf⟩ := ck_e hf
      refine g_get (ci := 8) (v := vI (mI M2 x0 5)) 5 X cdX10 i_X10_scanToken_X10 (by decide) k_X10_scanToken_f37 rfl dX10_scanToken_34 rfl hT3 rfl ?_
      obtain ⟨r4, M4, hq4, hf⟩ := bd_e hf
      refine g_callV (ci := 8) (b := x0) (As := [vI (mI M2 x0 5)]) (st := []) (v := some (vI r4)) (M1 := M4) X (m_X10_isDigit l hq4) (cwV 1 X.2.2.1 gX10_scanToken_X10_isDigit rfl rfl rfl (by decide +kernel) ⟨Nat.le_of_ble_eq_true rfl, Nat.le_of_ble_eq_true rfl⟩) rfl rfl rfl hT3 (by decide) rfl (Nat.le_of_ble_eq_true rfl) dX10_scanToken_37 ⟨by decide, by decide⟩ ?_
      refine g_if_eq (tgt := 51) X dX10_scanToken_40 (by decide) (fun hc => ?_) (fun hc => ?_)
      · have hf := ife_t hc hf
        refine g_aload_n X dX10_scanToken_51 rfl rfl ?_
        obtain ⟨hT6, hf⟩ := ck_e hf
        obtain ⟨r5, M5, hq5, hf⟩ := bd_e hf
        refine g_callV (ci := 8) (b := x0) (As := []) (st := []) (v := some (vR r5)) (M1 := M5) X (m_X10_scanSymbol l hq5) (cwV 0 X.2.2.1 gX10_scanToken_X10_scanSymbol rfl rfl rfl (by decide +kernel) ⟨Nat.le_of_ble_eq_true rfl, Nat.le_of_ble_eq_true rfl⟩) rfl rfl rfl hT6 (by decide) rfl (Nat.le_of_ble_eq_true rfl) dX10_scanToken_52 ⟨by decide, by decide⟩ ?_
        refine g_sub (lvsub_of _ _ [] rfl) ?_
        exact t_X10_scanToken_55 X hr _ _ _ hf hK
      · have hf := ife_f hc hf
        refine g_aload_n X dX10_scanToken_43 rfl rfl ?_
        refine g_iload_n X dX10_scanToken_44 rfl rfl ?_
        obtain ⟨hT8, hf⟩ := ck_e hf
        obtain ⟨r7, M7, hq7, hf⟩ := bd_e hf
        refine g_callV (ci := 8) (b := x0) (As := [vI x1]) (st := []) (v := some (vR r7)) (M1 := M7) X (m_X10_scanNumber l hq7) (cwV 1 X.2.2.1 gX10_scanToken_X10_scanNumber rfl rfl rfl (by decide +kernel) ⟨Nat.le_of_ble_eq_true rfl, Nat.le_of_ble_eq_true rfl⟩) rfl rfl rfl hT8 (by decide) rfl (Nat.le_of_ble_eq_true rfl) dX10_scanToken_45 ⟨by decide, by decide⟩ ?_
        refine g_goto (tgt := 55) X dX10_scanToken_48 (by decide) ?_
        refine g_sub (lvsub_of _ _ [] rfl) ?_
        exact t_X10_scanToken_55 X hr _ _ _ hf hK
    · have hf := ife_f hc hf
      refine g_aload_n X dX10_scanToken_26 rfl rfl ?_
      refine g_iload_n X dX10_scanToken_27 rfl rfl ?_
      obtain ⟨hT10, hf⟩ := ck_e hf
      obtain ⟨r9, M9, hq9, hf⟩ := bd_e hf
      refine g_callV (ci := 8) (b := x0) (As := [vI x1]) (st := []) (v := some (vR r9)) (M1 := M9) X (m_X10_scanWord l hq9) (cwV 1 X.2.2.1 gX10_scanToken_X10_scanWord rfl rfl rfl (by decide +kernel) ⟨Nat.le_of_ble_eq_true rfl, Nat.le_of_ble_eq_true rfl⟩) rfl rfl rfl hT10 (by decide) rfl (Nat.le_of_ble_eq_true rfl) dX10_scanToken_28 ⟨by decide, by decide⟩ ?_
      cases hf
      refine g_eqQ hK ?_
      exact g_aret X hr (Or.inl ⟨_, rfl⟩) dX10_scanToken_31
  · have hf := ife_f hc hf
    refine g_gets (w := vR (some (Z 42))) X (gSt_E X 42 (by decide)) k_X10_scanToken_f29 rfl dX10_scanToken_11 ?_
    cases hf
    refine g_eqQ hK ?_
    exact g_aret X hr (Or.inl ⟨_, rfl⟩) dX10_scanToken_14
set_option maxHeartbeats 4000000 in
set_option maxRecDepth 100000 in
theorem m_X10_scanToken (l : Launch) {D : va_G} {cy : Nat → ClassId} {B : Nat} {H0 : Heap} {Z : Nat → Nat} {M M1 : gMem} {x0 : Nat} {x1 : Int32} {r : Option Nat} (hf : f_X10_scanToken Z M x0 x1 = some (r, M1)) : Met l yX10_scanToken wsX10_scanToken rX10_scanToken (va_Pc (Value.ref x0 :: List.map gv [vI x1]) (gPre D cy B H0 (gSt Z B H0) M)) (gQ D cy B H0 (some (vR r)) M1) 0 0 (gA B) := by
  refine Met.ofW (cc := cX10_scanToken) (maxL := 2) (ret := (some (.object "TideLots$Sign"))) (by decide) rfl ?_
  intro p e s m args below meth c s₁ Bd hml hv
  obtain ⟨rfl, hW, hKK, hFs⟩ := hv
  have X : gX p s m _ meth c D cy B (gSt Z B H0) RX10 cX10_scanToken wsX10_scanToken 2 := ⟨Bd.exec, Bd.bytes, atoms_spec (ws := wsX10_scanToken) Bd.pre, findClass_of_methodNamed Bd.named, hml, hKK, by rw [hW.1]; exact hW.2.1, Bd.notSynchronized, hFs⟩
  have hr := Bd.returns
  have hl := lv_entry ([.ref x0, .int x1]) (n := 2) (Nat.le_of_ble_eq_true rfl)
  show W p l e rX10_scanToken s m _ below meth c s.heap [] 0 0 _ (entryFrame m ([.ref x0, .int x1] : List Value).toArray 2)
  rw [lg_entry_eq]
  generalize (lg_sl ([.ref x0, .int x1]) ++ List.replicate (2 - (lg_sl ([.ref x0, .int x1])).length) Slot.unset).toArray = ls at hl ⊢
  have hl : lv_has ls 2 (List.map gq [(0, vR (some x0)), (1, vI x1)]) := hl
  exact t_X10_scanToken_0 X hr _ _ _ _ hf rfl s.heap [] ls hW va_S.rf (lv_has_sub hl (lvsub_of _ _ [0, 1] rfl))
/-! ## TideLots$Tape.scan()V -/
theorem dX10_scan_0 : decode cX10_scan 0 = .ok (.aload_n 0, 1) := by decide +kernel
theorem dX10_scan_1 : decode cX10_scan 1 = .ok (.iconst 0, 1) := by decide +kernel
theorem dX10_scan_2 : decode cX10_scan 2 = .ok (.putfield 37, 3) := by decide +kernel
theorem dX10_scan_5 : decode cX10_scan 5 = .ok (.iconst 0, 1) := by decide +kernel
theorem dX10_scan_6 : decode cX10_scan 6 = .ok (.istore_n 1, 1) := by decide +kernel
theorem dX10_scan_7 : decode cX10_scan 7 = .ok (.iload_n 1, 1) := by decide +kernel
theorem dX10_scan_8 : decode cX10_scan 8 = .ok (.sipush 400, 3) := by decide +kernel
theorem dX10_scan_11 : decode cX10_scan 11 = .ok (.if_icmp .gt 83, 3) := by decide +kernel
theorem dX10_scan_14 : decode cX10_scan 14 = .ok (.aload_n 0, 1) := by decide +kernel
theorem dX10_scan_15 : decode cX10_scan 15 = .ok (.invokevirtual 40, 3) := by decide +kernel
theorem dX10_scan_18 : decode cX10_scan 18 = .ok (.aload_n 0, 1) := by decide +kernel
theorem dX10_scan_19 : decode cX10_scan 19 = .ok (.getfield 21, 3) := by decide +kernel
theorem dX10_scan_22 : decode cX10_scan 22 = .ok (.iload_n 1, 1) := by decide +kernel
theorem dX10_scan_23 : decode cX10_scan 23 = .ok (.aload_n 0, 1) := by decide +kernel
theorem dX10_scan_24 : decode cX10_scan 24 = .ok (.getfield 37, 3) := by decide +kernel
theorem dX10_scan_27 : decode cX10_scan 27 = .ok (.iastore, 1) := by decide +kernel
theorem dX10_scan_28 : decode cX10_scan 28 = .ok (.aload_n 0, 1) := by decide +kernel
theorem dX10_scan_29 : decode cX10_scan 29 = .ok (.getfield 17, 3) := by decide +kernel
theorem dX10_scan_32 : decode cX10_scan 32 = .ok (.iload_n 1, 1) := by decide +kernel
theorem dX10_scan_33 : decode cX10_scan 33 = .ok (.iload_n 1, 1) := by decide +kernel
theorem dX10_scan_34 : decode cX10_scan 34 = .ok (.sipush 400, 3) := by decide +kernel
theorem dX10_scan_37 : decode cX10_scan 37 = .ok (.if_icmp .lt 14, 3) := by decide +kernel
theorem dX10_scan_40 : decode cX10_scan 40 = .ok (.aload_n 0, 1) := by decide +kernel
theorem dX10_scan_41 : decode cX10_scan 41 = .ok (.getfield 37, 3) := by decide +kernel
theorem dX10_scan_44 : decode cX10_scan 44 = .ok (.aload_n 0, 1) := by decide +kernel
theorem dX10_scan_45 : decode cX10_scan 45 = .ok (.getfield 33, 3) := by decide +kernel
theorem dX10_scan_48 : decode cX10_scan 48 = .ok (.if_icmp .lt 11, 3) := by decide +kernel
theorem dX10_scan_51 : decode cX10_scan 51 = .ok (.aload_n 0, 1) := by decide +kernel
theorem dX10_scan_52 : decode cX10_scan 52 = .ok (.iload_n 1, 1) := by decide +kernel
theorem dX10_scan_53 : decode cX10_scan 53 = .ok (.invokevirtual 43, 3) := by decide +kernel
theorem dX10_scan_56 : decode cX10_scan 56 = .ok (.goto 6, 3) := by decide +kernel
theorem dX10_scan_59 : decode cX10_scan 59 = .ok (.getstatic 47, 3) := by decide +kernel
theorem dX10_scan_62 : decode cX10_scan 62 = .ok (.aastore, 1) := by decide +kernel
theorem dX10_scan_63 : decode cX10_scan 63 = .ok (.aload_n 0, 1) := by decide +kernel
theorem dX10_scan_64 : decode cX10_scan 64 = .ok (.getfield 17, 3) := by decide +kernel
theorem dX10_scan_67 : decode cX10_scan 67 = .ok (.iload_n 1, 1) := by decide +kernel
theorem dX10_scan_68 : decode cX10_scan 68 = .ok (.aaload, 1) := by decide +kernel
theorem dX10_scan_69 : decode cX10_scan 69 = .ok (.getstatic 29, 3) := by decide +kernel
theorem dX10_scan_72 : decode cX10_scan 72 = .ok (.if_acmp .eq 15, 3) := by decide +kernel
theorem dX10_scan_75 : decode cX10_scan 75 = .ok (.aload_n 0, 1) := by decide +kernel
theorem dX10_scan_76 : decode cX10_scan 76 = .ok (.getfield 17, 3) := by decide +kernel
theorem dX10_scan_79 : decode cX10_scan 79 = .ok (.iload_n 1, 1) := by decide +kernel
theorem dX10_scan_80 : decode cX10_scan 80 = .ok (.aaload, 1) := by decide +kernel
theorem dX10_scan_81 : decode cX10_scan 81 = .ok (.getstatic 47, 3) := by decide +kernel
theorem dX10_scan_84 : decode cX10_scan 84 = .ok (.if_acmp .ne 4, 3) := by decide +kernel
theorem dX10_scan_87 : decode cX10_scan 87 = .ok (.return_, 1) := by decide +kernel
theorem dX10_scan_88 : decode cX10_scan 88 = .ok (.iinc 1 1, 3) := by decide +kernel
theorem dX10_scan_91 : decode cX10_scan 91 = .ok (.goto (-84), 3) := by decide +kernel
theorem dX10_scan_94 : decode cX10_scan 94 = .ok (.return_, 1) := by decide +kernel
set_option maxRecDepth 20000 in
theorem ggX10_scan_X10_scanToken : GoodIn wsX10_scan wsX10_scanToken := goodIn_2 24 (goodIn_r _ [20, 1, 4, 6, 21, 22, 23, 10, 24, 12, 13, 14, 15, 16, 25, 26, 27, 28, 29, 30, 5, 31, 32, 33] (by decide +kernel) (by decide +kernel)) (goodIn_2 24 (goodIn_r _ [34, 35, 36, 37, 38, 39, 40, 41, 42, 43, 44, 45, 46, 47, 48, 49, 50, 51, 52, 53, 54, 55, 56, 57] (by decide +kernel) (by decide +kernel)) (goodIn_2 24 (goodIn_r _ [58, 59, 60, 61, 62, 63, 64, 65, 66, 67, 68, 69, 70, 71, 72, 73, 74, 75, 76, 77, 78, 79, 80, 81] (by decide +kernel) (by decide +kernel)) (goodIn_2 24 (goodIn_r _ [82, 83, 84, 85, 86, 87, 88, 89, 90, 91, 92, 93, 94, 95, 96, 97, 98, 99, 100, 101, 102, 103, 104, 105] (by decide +kernel) (by decide +kernel)) (goodIn_r _ [106, 107, 108, 109, 110, 111, 112, 113] (by decide +kernel) (by decide +kernel)))))
set_option maxRecDepth 20000 in
theorem gX10_scan_X10_scanToken : GoodIn wsX10_scan (wsV RX10 43 RX10 yX10_scanToken wsX10_scanToken) := goodIn_app (goodIn_of _ (by decide +kernel)) ggX10_scan_X10_scanToken
set_option maxRecDepth 20000 in
theorem ggX10_scan_X10_skipBlanks : GoodIn wsX10_scan wsX10_skipBlanks := goodIn_r _ [11, 1, 4, 12, 13, 14, 10, 15, 16, 104, 105, 106, 107, 108, 109] (by decide +kernel) (by decide +kernel)
set_option maxRecDepth 20000 in
theorem gX10_scan_X10_skipBlanks : GoodIn wsX10_scan (wsV RX10 40 RX10 yX10_skipBlanks wsX10_skipBlanks) := goodIn_app (goodIn_of _ (by decide +kernel)) ggX10_scan_X10_skipBlanks
theorem k_X10_scan_f17 : Cond.fieldLink RX10 17 "TideLots$Tape" "signs" "[LTideLots$Sign;" ∈ wsX10_scan := by decide +kernel
theorem i_X10_scan_X10 : ∀ w ∈ u_ws RX10 TX10 6, w ∈ wsX10_scan := by decide +kernel
theorem k_X10_scan_f29 : Cond.fieldLink RX10 29 "TideLots$Sign" "END" "LTideLots$Sign;" ∈ wsX10_scan := by decide +kernel
theorem k_X10_scan_f47 : Cond.fieldLink RX10 47 "TideLots$Sign" "NO_TOKEN" "LTideLots$Sign;" ∈ wsX10_scan := by decide +kernel
theorem k_X10_scan_f21 : Cond.fieldLink RX10 21 "TideLots$Tape" "starts" "[I" ∈ wsX10_scan := by decide +kernel
theorem k_X10_scan_f37 : Cond.fieldLink RX10 37 "TideLots$Tape" "end" "I" ∈ wsX10_scan := by decide +kernel
theorem k_X10_scan_f33 : Cond.fieldLink RX10 33 "TideLots$Tape" "length" "I" ∈ wsX10_scan := by decide +kernel
abbrev rX10_scan : Room := { frames := 8, cells := 0, slots := 0, locals := 182 }
noncomputable def b_X10_scan_87 (Z : Nat → Nat) (M : gMem)  : Option (Unit × gMem) :=
  some ((), M)
noncomputable def b_X10_scan_62 (Z : Nat → Nat) (M : gMem) (x0 : Nat) (x1 : Int32) (s0 : Option Nat) (s1 : Int32) (s2 : Option Nat) : Option ((gMem × Int32) ⊕ (Unit × gMem)) :=
  dr s0 fun a1 => ck (mT M a1 = 27) <| ck (inb s1 (mL M a1)) <| dr (ordZ Z s2) fun o4 => lw (wR M a1 s1.toNatClampNeg s2) fun M5 => ck (mT M5 x0 = 9) <| dr ((mR M5 x0 2)) fun a8 => ck (mT M5 a8 = 27) <| ck (inb x1 (mL M5 a8)) <| (if (mR M5 a8 x1.toNatClampNeg) = (some (Z 42)) then oI (b_X10_scan_87 Z M5 ) else ck (inb x1 (mL M5 a8)) <| (if (mR M5 a8 x1.toNatClampNeg) = (some (Z 43)) then oI (b_X10_scan_87 Z M5 ) else some (.inl (M5, (x1 + (1 : Int32))))))
noncomputable def b_X10_scan_51 (Z : Nat → Nat) (M : gMem) (x0 : Nat) (x1 : Int32) (s0 : Option Nat) (s1 : Int32) : Option ((gMem × Int32) ⊕ (Unit × gMem)) :=
  ck (mT M x0 = 9) <| bd (f_X10_scanToken Z M x0 x1) fun r14 M14 => b_X10_scan_62 Z M14 x0 x1 s0 s1 r14
noncomputable def bb_X10_scan_7 (Z : Nat → Nat) (M : gMem) (x0 : Nat) (x1 : Int32) : Option ((gMem × Int32) ⊕ (Unit × gMem)) :=
  (if (400 : Int32) < x1 then oI (some ((), M)) else ck (mT M x0 = 9) <| bd (f_X10_skipBlanks M x0) fun _ M17 => ck (mT M17 x0 = 9) <| dr ((mR M17 x0 3)) fun a20 => ck (mT M17 a20 = 20) <| ck (inb x1 (mL M17 a20)) <| lw (wI M17 a20 x1.toNatClampNeg ((mI M17 x0 5))) fun M23 => (if x1 < (400 : Int32) then b_X10_scan_51 Z M23 x0 x1 ((mR M23 x0 2)) x1 else (if (mI M23 x0 5) < (mI M23 x0 0) then b_X10_scan_62 Z M23 x0 x1 ((mR M23 x0 2)) x1 ((some (Z 43))) else b_X10_scan_51 Z M23 x0 x1 ((mR M23 x0 2)) x1)))
noncomputable def lp_X10_scan_7 (Z : Nat → Nat) (M : gMem) (x0 : Nat) (x1 : Int32) : Option (Unit × gMem) :=
  lp (fun (q : gMem × Int32) => bb_X10_scan_7 Z q.1 x0 q.2) (M, x1)
noncomputable def b_X10_scan_0 (Z : Nat → Nat) (M : gMem) (x0 : Nat) : Option (Unit × gMem) :=
  ck (mT M x0 = 9) <| lw (wI M x0 5 ((0 : Int32))) fun M27 => lp_X10_scan_7 Z M27 x0 ((0 : Int32))
noncomputable def f_X10_scan (Z : Nat → Nat) (M : gMem) (x0 : Nat) : Option (Unit × gMem) :=
  b_X10_scan_0 Z M x0
set_option maxHeartbeats 4000000 in
set_option maxRecDepth 100000 in
theorem t_X10_scan_87 (X : gX p s m args meth c D cy B (gSt Z B H0) RX10 cX10_scan wsX10_scan 2) (hr : meth.sig.returnType = none) {Q : State → Prop} : ∀ (M : gMem)  (z : Unit × gMem), b_X10_scan_87 Z M  = some z → (fun (r : Unit × gMem) => Q = gMQ below D cy B H0 args s 0 0 none r.2) z → gGo p l e rX10_scan s m args below meth c D cy B H0 2 0 0 Q 87 [] [] M := by
  intro M  z hf hK
  unfold b_X10_scan_87 at hf
  cases hf
  refine g_eqQ hK ?_
  exact g_vret X hr dX10_scan_87
set_option maxHeartbeats 4000000 in
set_option maxRecDepth 100000 in
theorem t_X10_scan_62 (X : gX p s m args meth c D cy B (gSt Z B H0) RX10 cX10_scan wsX10_scan 2) (hr : meth.sig.returnType = none) {Q : State → Prop} : ∀ (M : gMem) (x0 : Nat) (x1 : Int32) (s0 : Option Nat) (s1 : Int32) (s2 : Option Nat) (z : (gMem × Int32) ⊕ (Unit × gMem)), b_X10_scan_62 Z M x0 x1 s0 s1 s2 = some z → (Sum.elim (fun (q : gMem × Int32) => gGo p l e rX10_scan s m args below meth c D cy B H0 2 0 0 Q 7 [(0, vR (some x0)), (1, vI q.2)] [] q.1) (fun (r : Unit × gMem) => Q = gMQ below D cy B H0 args s 0 0 none r.2)) z → gGo p l e rX10_scan s m args below meth c D cy B H0 2 0 0 Q 62 [(0, vR (some x0)), (1, vI x1)] [vR s2, vI s1, vR s0] M := by
  intro M x0 x1 s0 s1 s2 z hf hK
  unfold b_X10_scan_62 at hf
  obtain ⟨a1, ha1, hf⟩ := dr_e hf
  obtain ⟨hT2, hf⟩ := ck_e hf
  obtain ⟨hg3, hf⟩ := ck_e hf
  obtain ⟨o4, ho4, hf⟩ := dr_e hf
  refine g_aastE X dX10_scan_62 ha1 hT2 hg3 (ordZ_eq ho4) (ordZ_lt ho4) ?_
  obtain ⟨M5, hM5, hf⟩ := lw_e hf
  rw [← hM5]
  have hT6 : mT M5 a1 = 27 := by rw [hM5]; exact hT2
  refine g_aload_n X dX10_scan_63 rfl rfl ?_
  obtain ⟨hT7, hf⟩ := ck_e hf
  refine g_get (ci := 8) (v := vR (mR M5 x0 2)) 2 X cdX10 i_X10_scan_X10 (by decide) k_X10_scan_f17 rfl dX10_scan_64 rfl hT7 rfl ?_
  refine g_iload_n X dX10_scan_67 rfl rfl ?_
  obtain ⟨a8, ha8, hf⟩ := dr_e hf
  obtain ⟨hT9, hf⟩ := ck_e hf
  obtain ⟨hg10, hf⟩ := ck_e hf
  refine g_aald (t0 := 7) X dX10_scan_68 ha8 hT9 (by decide) rfl hg10 ?_
  refine g_gets (w := vR (some (Z 42))) X (gSt_E X 42 (by decide)) k_X10_scan_f29 rfl dX10_scan_69 ?_
  refine g_acmp_eq (tgt := 87) X dX10_scan_72 (by decide) (fun hc => ?_) (fun hc => ?_)
  · have hf := ife_t hc hf
    obtain ⟨w11, hw11, hz11⟩ := oI_e hf
    subst hz11
    have hf := hw11
    refine g_sub (lvsub_of _ _ [] rfl) ?_
    exact t_X10_scan_87 X hr _  _ hf hK
  · have hf := ife_f hc hf
    refine g_aload_n X dX10_scan_75 rfl rfl ?_
    refine g_get (ci := 8) (v := vR (mR M5 x0 2)) 2 X cdX10 i_X10_scan_X10 (by decide) k_X10_scan_f17 rfl dX10_scan_76 rfl hT7 rfl ?_
    refine g_iload_n X dX10_scan_79 rfl rfl ?_
    obtain ⟨hg12, hf⟩ := ck_e hf
    refine g_aald (t0 := 7) X dX10_scan_80 ha8 hT9 (by decide) rfl hg12 ?_
    refine g_gets (w := vR (some (Z 43))) X (gSt_E X 43 (by decide)) k_X10_scan_f47 rfl dX10_scan_81 ?_
    refine g_acmp_ne (tgt := 88) X dX10_scan_84 (by decide) (fun hc => ?_) (fun hc => ?_)
    · have hf := ife_f hc hf
      refine g_iinc (v := (1 : Int32)) (lv' := [(1, vI (x1 + (1 : Int32))), (0, vR (some x0))]) X dX10_scan_88 rfl (by decide) (by decide) rfl ?_
      refine g_goto (tgt := 7) X dX10_scan_91 (by decide) ?_
      cases hf
      refine g_sub (lvsub_of _ _ [1, 0] rfl) ?_
      exact hK
    · have hf := ife_t hc hf
      obtain ⟨w13, hw13, hz13⟩ := oI_e hf
      subst hz13
      have hf := hw13
      refine g_sub (lvsub_of _ _ [] rfl) ?_
      exact t_X10_scan_87 X hr _  _ hf hK
set_option maxHeartbeats 4000000 in
set_option maxRecDepth 100000 in
theorem t_X10_scan_51 (X : gX p s m args meth c D cy B (gSt Z B H0) RX10 cX10_scan wsX10_scan 2) (hr : meth.sig.returnType = none) {Q : State → Prop} : ∀ (M : gMem) (x0 : Nat) (x1 : Int32) (s0 : Option Nat) (s1 : Int32) (z : (gMem × Int32) ⊕ (Unit × gMem)), b_X10_scan_51 Z M x0 x1 s0 s1 = some z → (Sum.elim (fun (q : gMem × Int32) => gGo p l e rX10_scan s m args below meth c D cy B H0 2 0 0 Q 7 [(0, vR (some x0)), (1, vI q.2)] [] q.1) (fun (r : Unit × gMem) => Q = gMQ below D cy B H0 args s 0 0 none r.2)) z → gGo p l e rX10_scan s m args below meth c D cy B H0 2 0 0 Q 51 [(0, vR (some x0)), (1, vI x1)] [vI s1, vR s0] M := by
  intro M x0 x1 s0 s1 z hf hK
  unfold b_X10_scan_51 at hf
  refine g_aload_n X dX10_scan_51 rfl rfl ?_
  refine g_iload_n X dX10_scan_52 rfl rfl ?_
  obtain ⟨hT15, hf⟩ := ck_e hf
  obtain ⟨r14, M14, hq14, hf⟩ := bd_e hf
  refine g_callV (ci := 8) (b := x0) (As := [vI x1]) (st := [vI s1, vR s0]) (v := some (vR r14)) (M1 := M14) X (m_X10_scanToken l hq14) (cwV 1 X.2.2.1 gX10_scan_X10_scanToken rfl rfl rfl (by decide +kernel) ⟨Nat.le_of_ble_eq_true rfl, Nat.le_of_ble_eq_true rfl⟩) rfl rfl rfl hT15 (by decide) rfl (Nat.le_of_ble_eq_true rfl) dX10_scan_53 ⟨by decide, by decide⟩ ?_
  refine g_goto (tgt := 62) X dX10_scan_56 (by decide) ?_
  refine g_sub (lvsub_of _ _ [0, 1] rfl) ?_
  exact t_X10_scan_62 X hr _ _ _ _ _ _ _ hf hK
set_option maxHeartbeats 4000000 in
set_option maxRecDepth 100000 in
theorem tb_X10_scan_7 (X : gX p s m args meth c D cy B (gSt Z B H0) RX10 cX10_scan wsX10_scan 2) (hr : meth.sig.returnType = none) {Q : State → Prop} : ∀ (M : gMem) (x0 : Nat) (x1 : Int32) (z : (gMem × Int32) ⊕ (Unit × gMem)), bb_X10_scan_7 Z M x0 x1 = some z → (Sum.elim (fun (q : gMem × Int32) => gGo p l e rX10_scan s m args below meth c D cy B H0 2 0 0 Q 7 [(0, vR (some x0)), (1, vI q.2)] [] q.1) (fun (r : Unit × gMem) => Q = gMQ below D cy B H0 args s 0 0 none r.2)) z → gGo p l e rX10_scan s m args below meth c D cy B H0 2 0 0 Q 7 [(0, vR (some x0)), (1, vI x1)] [] M := by
  intro M x0 x1 z hf hK
  unfold bb_X10_scan_7 at hf
  refine g_iload_n X dX10_scan_7 rfl rfl ?_
  refine g_sipush (v := (400 : Int32)) X dX10_scan_8 (by decide) ?_
  refine g_icmp_gt (tgt := 94) X dX10_scan_11 (by decide) (fun hc => ?_) (fun hc => ?_)
  · have hf := ife_t hc hf
    obtain ⟨w16, hw16, hz16⟩ := oI_e hf
    subst hz16
    have hf := hw16
    cases hf
    refine g_eqQ hK ?_
    exact g_vret X hr dX10_scan_94
  · have hf := ife_f hc hf
    refine g_aload_n X dX10_scan_14 rfl rfl ?_
    obtain ⟨hT18, hf⟩ := ck_e hf
    obtain ⟨r17, M17, hq17, hf⟩ := bd_e hf
    refine g_callV (ci := 8) (b := x0) (As := []) (st := []) (v := none) (M1 := M17) X (m_X10_skipBlanks l hq17) (cwV 0 X.2.2.1 gX10_scan_X10_skipBlanks rfl rfl rfl (by decide +kernel) ⟨Nat.le_of_ble_eq_true rfl, Nat.le_of_ble_eq_true rfl⟩) rfl rfl rfl hT18 (by decide) rfl (Nat.le_of_ble_eq_true rfl) dX10_scan_15 ⟨by decide, by decide⟩ ?_
    refine g_aload_n X dX10_scan_18 rfl rfl ?_
    obtain ⟨hT19, hf⟩ := ck_e hf
    refine g_get (ci := 8) (v := vR (mR M17 x0 3)) 3 X cdX10 i_X10_scan_X10 (by decide) k_X10_scan_f21 rfl dX10_scan_19 rfl hT19 rfl ?_
    refine g_iload_n X dX10_scan_22 rfl rfl ?_
    refine g_aload_n X dX10_scan_23 rfl rfl ?_
    refine g_get (ci := 8) (v := vI (mI M17 x0 5)) 5 X cdX10 i_X10_scan_X10 (by decide) k_X10_scan_f37 rfl dX10_scan_24 rfl hT19 rfl ?_
    obtain ⟨a20, ha20, hf⟩ := dr_e hf
    obtain ⟨hT21, hf⟩ := ck_e hf
    obtain ⟨hg22, hf⟩ := ck_e hf
    refine g_iast X dX10_scan_27 ha20 hT21 hg22 ?_
    obtain ⟨M23, hM23, hf⟩ := lw_e hf
    rw [← hM23]
    have hT24 : mT M23 x0 = 9 := by rw [hM23]; exact hT19
    have hT25 : mT M23 a20 = 20 := by rw [hM23]; exact hT21
    refine g_aload_n X dX10_scan_28 rfl rfl ?_
    refine g_get (ci := 8) (v := vR (mR M23 x0 2)) 2 X cdX10 i_X10_scan_X10 (by decide) k_X10_scan_f17 rfl dX10_scan_29 rfl hT24 rfl ?_
    refine g_iload_n X dX10_scan_32 rfl rfl ?_
    refine g_iload_n X dX10_scan_33 rfl rfl ?_
    refine g_sipush (v := (400 : Int32)) X dX10_scan_34 (by decide) ?_
    refine g_icmp_lt (tgt := 51) X dX10_scan_37 (by decide) (fun hc => ?_) (fun hc => ?_)
    · have hf := ife_t hc hf
      refine g_sub (lvsub_of _ _ [0, 1] rfl) ?_
      exact t_X10_scan_51 X hr _ _ _ _ _ _ hf hK
    · have hf := ife_f hc hf
      refine g_aload_n X dX10_scan_40 rfl rfl ?_
      refine g_get (ci := 8) (v := vI (mI M23 x0 5)) 5 X cdX10 i_X10_scan_X10 (by decide) k_X10_scan_f37 rfl dX10_scan_41 rfl hT24 rfl ?_
      refine g_aload_n X dX10_scan_44 rfl rfl ?_
      refine g_get (ci := 8) (v := vI (mI M23 x0 0)) 0 X cdX10 i_X10_scan_X10 (by decide) k_X10_scan_f33 rfl dX10_scan_45 rfl hT24 rfl ?_
      refine g_icmp_lt (tgt := 59) X dX10_scan_48 (by decide) (fun hc => ?_) (fun hc => ?_)
      · have hf := ife_t hc hf
        refine g_gets (w := vR (some (Z 43))) X (gSt_E X 43 (by decide)) k_X10_scan_f47 rfl dX10_scan_59 ?_
        refine g_sub (lvsub_of _ _ [0, 1] rfl) ?_
        exact t_X10_scan_62 X hr _ _ _ _ _ _ _ hf hK
      · have hf := ife_f hc hf
        refine g_sub (lvsub_of _ _ [0, 1] rfl) ?_
        exact t_X10_scan_51 X hr _ _ _ _ _ _ hf hK
set_option maxHeartbeats 4000000 in
set_option maxRecDepth 100000 in
theorem tl_X10_scan_7 (X : gX p s m args meth c D cy B (gSt Z B H0) RX10 cX10_scan wsX10_scan 2) (hr : meth.sig.returnType = none) {Q : State → Prop} : ∀ (M : gMem) (x0 : Nat) (x1 : Int32) (z : Unit × gMem), lp_X10_scan_7 Z M x0 x1 = some z → (fun (r : Unit × gMem) => Q = gMQ below D cy B H0 args s 0 0 none r.2) z → gGo p l e rX10_scan s m args below meth c D cy B H0 2 0 0 Q 7 [(0, vR (some x0)), (1, vI x1)] [] M := by
  intro M x0 x1 z hf hK
  refine lp_ind (P := (fun (q : gMem × Int32) (z : Unit × gMem) => (fun (r : Unit × gMem) => Q = gMQ below D cy B H0 args s 0 0 none r.2) z → gGo p l e rX10_scan s m args below meth c D cy B H0 2 0 0 Q 7 [(0, vR (some x0)), (1, vI q.2)] [] q.1)) (fun q z hq => ?_) _ _ hf hK
  intro hK
  obtain ⟨w, hw, hm⟩ := hq
  refine tb_X10_scan_7 X hr _ _ _ w hw ?_
  cases w with
  | inl a => exact hm hK
  | inr b => cases hm; exact hK
set_option maxHeartbeats 4000000 in
set_option maxRecDepth 100000 in
theorem t_X10_scan_0 (X : gX p s m args meth c D cy B (gSt Z B H0) RX10 cX10_scan wsX10_scan 2) (hr : meth.sig.returnType = none) {Q : State → Prop} : ∀ (M : gMem) (x0 : Nat) (z : Unit × gMem), b_X10_scan_0 Z M x0 = some z → (fun (r : Unit × gMem) => Q = gMQ below D cy B H0 args s 0 0 none r.2) z → gGo p l e rX10_scan s m args below meth c D cy B H0 2 0 0 Q 0 [(0, vR (some x0))] [] M := by
  intro M x0 z hf hK
  unfold b_X10_scan_0 at hf
  refine g_aload_n X dX10_scan_0 rfl rfl ?_
  refine g_iconst (v := (0 : Int32)) X dX10_scan_1 (by decide) ?_
  obtain ⟨hT26, hf⟩ := ck_e hf
  refine g_putI (ci := 8) 5 X cdX10 i_X10_scan_X10 (by decide) k_X10_scan_f37 rfl dX10_scan_2 rfl hT26 (Or.inl rfl) rfl rfl rfl ?_
  obtain ⟨M27, hM27, hf⟩ := lw_e hf
  rw [← hM27]
  have hT28 : mT M27 x0 = 9 := by rw [hM27]; exact hT26
  refine g_iconst (v := (0 : Int32)) X dX10_scan_5 (by decide) ?_
  refine g_istore_n (lv' := [(1, vI (0 : Int32)), (0, vR (some x0))]) X dX10_scan_6 rfl (by decide) rfl ?_
  refine g_sub (lvsub_of _ _ [1, 0] rfl) ?_
  exact tl_X10_scan_7 X hr _ _ _ _ hf hK
set_option maxHeartbeats 4000000 in
set_option maxRecDepth 100000 in
theorem m_X10_scan (l : Launch) {D : va_G} {cy : Nat → ClassId} {B : Nat} {H0 : Heap} {Z : Nat → Nat} {M M1 : gMem} {x0 : Nat} {r : Unit} (hf : f_X10_scan Z M x0 = some (r, M1)) : Met l yX10_scan wsX10_scan rX10_scan (va_Pc (Value.ref x0 :: List.map gv []) (gPre D cy B H0 (gSt Z B H0) M)) (gQ D cy B H0 none M1) 0 0 (gA B) := by
  refine Met.ofW (cc := cX10_scan) (maxL := 2) (ret := none) (by decide) rfl ?_
  intro p e s m args below meth c s₁ Bd hml hv
  obtain ⟨rfl, hW, hKK, hFs⟩ := hv
  have X : gX p s m _ meth c D cy B (gSt Z B H0) RX10 cX10_scan wsX10_scan 2 := ⟨Bd.exec, Bd.bytes, atoms_spec (ws := wsX10_scan) Bd.pre, findClass_of_methodNamed Bd.named, hml, hKK, by rw [hW.1]; exact hW.2.1, Bd.notSynchronized, hFs⟩
  have hr := Bd.returns
  have hl := lv_entry ([.ref x0]) (n := 2) (Nat.le_of_ble_eq_true rfl)
  show W p l e rX10_scan s m _ below meth c s.heap [] 0 0 _ (entryFrame m ([.ref x0] : List Value).toArray 2)
  rw [lg_entry_eq]
  generalize (lg_sl ([.ref x0]) ++ List.replicate (2 - (lg_sl ([.ref x0])).length) Slot.unset).toArray = ls at hl ⊢
  have hl : lv_has ls 2 (List.map gq [(0, vR (some x0))]) := hl
  exact t_X10_scan_0 X hr _ _ _ hf rfl s.heap [] ls hW va_S.rf (lv_has_sub hl (lvsub_of _ _ [0] rfl))
end
