section
variable {p : Program} {l : Launch} {e : Env} {s : State} {m : MethodId} {args : Array Value} {below : List Frame} {meth : Method} {c : Code} {D : va_G} {cy : Nat → ClassId} {B : Nat} {H0 : Heap} {Z : Nat → Nat}
/-! ## java/lang/AbstractStringBuilder.ensureCapacityInternal(I)V -/
theorem dJ5_ensureCapacityInternal_d00df_0 : decode cJ5_ensureCapacityInternal_d00df 0 = .ok (.aload_n 0, 1) := by decide +kernel
theorem dJ5_ensureCapacityInternal_d00df_1 : decode cJ5_ensureCapacityInternal_d00df 1 = .ok (.getfield 15, 3) := by decide +kernel
theorem dJ5_ensureCapacityInternal_d00df_4 : decode cJ5_ensureCapacityInternal_d00df 4 = .ok (.arraylength, 1) := by decide +kernel
theorem dJ5_ensureCapacityInternal_d00df_5 : decode cJ5_ensureCapacityInternal_d00df 5 = .ok (.aload_n 0, 1) := by decide +kernel
theorem dJ5_ensureCapacityInternal_d00df_6 : decode cJ5_ensureCapacityInternal_d00df 6 = .ok (.getfield 22, 3) := by decide +kernel
theorem dJ5_ensureCapacityInternal_d00df_9 : decode cJ5_ensureCapacityInternal_d00df 9 = .ok (.ishr, 1) := by decide +kernel
theorem dJ5_ensureCapacityInternal_d00df_10 : decode cJ5_ensureCapacityInternal_d00df 10 = .ok (.istore_n 2, 1) := by decide +kernel
theorem dJ5_ensureCapacityInternal_d00df_11 : decode cJ5_ensureCapacityInternal_d00df 11 = .ok (.iload_n 1, 1) := by decide +kernel
theorem dJ5_ensureCapacityInternal_d00df_12 : decode cJ5_ensureCapacityInternal_d00df 12 = .ok (.iload_n 2, 1) := by decide +kernel
theorem dJ5_ensureCapacityInternal_d00df_13 : decode cJ5_ensureCapacityInternal_d00df 13 = .ok (.isub, 1) := by decide +kernel
theorem dJ5_ensureCapacityInternal_d00df_14 : decode cJ5_ensureCapacityInternal_d00df 14 = .ok (.ifCond .le 24, 3) := by decide +kernel
theorem dJ5_ensureCapacityInternal_d00df_17 : decode cJ5_ensureCapacityInternal_d00df 17 = .ok (.aload_n 0, 1) := by decide +kernel
theorem dJ5_ensureCapacityInternal_d00df_18 : decode cJ5_ensureCapacityInternal_d00df 18 = .ok (.aload_n 0, 1) := by decide +kernel
theorem dJ5_ensureCapacityInternal_d00df_19 : decode cJ5_ensureCapacityInternal_d00df 19 = .ok (.getfield 15, 3) := by decide +kernel
theorem dJ5_ensureCapacityInternal_d00df_22 : decode cJ5_ensureCapacityInternal_d00df 22 = .ok (.aload_n 0, 1) := by decide +kernel
theorem dJ5_ensureCapacityInternal_d00df_23 : decode cJ5_ensureCapacityInternal_d00df 23 = .ok (.iload_n 1, 1) := by decide +kernel
theorem dJ5_ensureCapacityInternal_d00df_24 : decode cJ5_ensureCapacityInternal_d00df 24 = .ok (.invokevirtual 104, 3) := by decide +kernel
theorem dJ5_ensureCapacityInternal_d00df_27 : decode cJ5_ensureCapacityInternal_d00df 27 = .ok (.aload_n 0, 1) := by decide +kernel
theorem dJ5_ensureCapacityInternal_d00df_28 : decode cJ5_ensureCapacityInternal_d00df 28 = .ok (.getfield 22, 3) := by decide +kernel
theorem dJ5_ensureCapacityInternal_d00df_31 : decode cJ5_ensureCapacityInternal_d00df 31 = .ok (.ishl, 1) := by decide +kernel
theorem dJ5_ensureCapacityInternal_d00df_32 : decode cJ5_ensureCapacityInternal_d00df 32 = .ok (.invokestatic 108, 3) := by decide +kernel
theorem dJ5_ensureCapacityInternal_d00df_35 : decode cJ5_ensureCapacityInternal_d00df 35 = .ok (.putfield 15, 3) := by decide +kernel
theorem dJ5_ensureCapacityInternal_d00df_38 : decode cJ5_ensureCapacityInternal_d00df 38 = .ok (.return_, 1) := by decide +kernel
set_option maxRecDepth 20000 in
theorem ggJ5_ensureCapacityInternal_d00df_J5_newCapacity_0f7a4 : GoodIn wsJ5_ensureCapacityInternal_d00df wsJ5_newCapacity_0f7a4 := goodIn_r _ [8, 1, 2, 9, 10, 11, 12, 13, 14, 15, 16, 17, 18, 19, 20, 21, 40, 41, 42, 43] (by decide +kernel) (by decide +kernel)
set_option maxRecDepth 20000 in
theorem gJ5_ensureCapacityInternal_d00df_J5_newCapacity_0f7a4_u104J4 : GoodIn wsJ5_ensureCapacityInternal_d00df (va_wsU RJ5 104 RJ4 "java/lang/AbstractStringBuilder" ⟨"java/lang/AbstractStringBuilder", "newCapacity", "(I)I"⟩ yJ5_newCapacity_0f7a4 wsJ5_newCapacity_0f7a4) := goodIn_app (goodIn_of _ (by decide +kernel)) ggJ5_ensureCapacityInternal_d00df_J5_newCapacity_0f7a4
set_option maxRecDepth 20000 in
theorem ggJ5_ensureCapacityInternal_d00df_J7_copyOf_9075b : GoodIn wsJ5_ensureCapacityInternal_d00df wsJ7_copyOf_9075b := goodIn_r _ [25, 26, 27, 28, 29, 30, 31, 32, 33, 34, 16, 35, 36, 37, 38, 39] (by decide +kernel) (by decide +kernel)
set_option maxRecDepth 20000 in
theorem gJ5_ensureCapacityInternal_d00df_J7_copyOf_9075b : GoodIn wsJ5_ensureCapacityInternal_d00df (va_wsS RJ5 108 yJ7_copyOf_9075b wsJ7_copyOf_9075b) := goodIn_app (goodIn_of _ (by decide +kernel)) ggJ5_ensureCapacityInternal_d00df_J7_copyOf_9075b
theorem k_J5_ensureCapacityInternal_d00df_f15 : Cond.fieldLink RJ5 15 "java/lang/AbstractStringBuilder" "value" "[B" ∈ wsJ5_ensureCapacityInternal_d00df := by decide +kernel
theorem i_J5_ensureCapacityInternal_d00df_J4 : ∀ w ∈ u_ws RJ4 TJ4 4, w ∈ wsJ5_ensureCapacityInternal_d00df := by decide +kernel
theorem k_J5_ensureCapacityInternal_d00df_f22 : Cond.fieldLink RJ5 22 "java/lang/AbstractStringBuilder" "coder" "B" ∈ wsJ5_ensureCapacityInternal_d00df := by decide +kernel
abbrev rJ5_ensureCapacityInternal_d00df : Room := { frames := 3, cells := 1, slots := 2400, locals := 82 }
noncomputable def b_J5_ensureCapacityInternal_d00df_38 (Z : Nat → Nat) (M : gMem)  : Option (Unit × gMem) :=
  some ((), M)
noncomputable def b_J5_ensureCapacityInternal_d00df_0 (Z : Nat → Nat) (M : gMem) (x0 : Nat) (x1 : Int32) : Option (Unit × gMem) :=
  ck (mT M x0 = 13) <| dr ((mR M x0 0)) fun a2 => ck (mT M a2 = 22) <| (if (x1 - ((Int32.ofNat (mL M a2)) >>> ((mI M x0 1) &&& 31))) ≤ 0 then b_J5_ensureCapacityInternal_d00df_38 Z M  else bd (f_J5_newCapacity_0f7a4 M x0 x1) fun r4 M4 => ck (mT M4 x0 = 13) <| bd (f_J7_copyOf_9075b Z M4 ((mR M x0 0)) ((r4 <<< ((mI M4 x0 1) &&& 31)))) fun r6 M6 => ck (mT M6 x0 = 13) <| lw (wR M6 x0 0 r6) fun M8 => b_J5_ensureCapacityInternal_d00df_38 Z M8 )
noncomputable def f_J5_ensureCapacityInternal_d00df (Z : Nat → Nat) (M : gMem) (x0 : Nat) (x1 : Int32) : Option (Unit × gMem) :=
  b_J5_ensureCapacityInternal_d00df_0 Z M x0 x1
set_option maxHeartbeats 4000000 in
set_option maxRecDepth 100000 in
theorem t_J5_ensureCapacityInternal_d00df_38 (X2 : gX p s m args meth c D cy B (gSt2 Z B H0) RJ5 cJ5_ensureCapacityInternal_d00df wsJ5_ensureCapacityInternal_d00df 3) (hr : meth.sig.returnType = none) {Q : State → Prop} : ∀ (M : gMem)  (z : Unit × gMem), b_J5_ensureCapacityInternal_d00df_38 Z M  = some z → (fun (r : Unit × gMem) => Q = gMQ below D cy B H0 args s 1 2400 none r.2) z → gGo p l e rJ5_ensureCapacityInternal_d00df s m args below meth c D cy B H0 3 1 2400 Q 38 [] [] M := by
  intro M  z hf hK
  unfold b_J5_ensureCapacityInternal_d00df_38 at hf
  have X := gX_w X2
  cases hf
  refine g_eqQ hK ?_
  exact g_vret X hr dJ5_ensureCapacityInternal_d00df_38
set_option maxHeartbeats 4000000 in
set_option maxRecDepth 100000 in
theorem t_J5_ensureCapacityInternal_d00df_0 (X2 : gX p s m args meth c D cy B (gSt2 Z B H0) RJ5 cJ5_ensureCapacityInternal_d00df wsJ5_ensureCapacityInternal_d00df 3) (hr : meth.sig.returnType = none) {Q : State → Prop} : ∀ (M : gMem) (x0 : Nat) (x1 : Int32) (z : Unit × gMem), b_J5_ensureCapacityInternal_d00df_0 Z M x0 x1 = some z → (fun (r : Unit × gMem) => Q = gMQ below D cy B H0 args s 1 2400 none r.2) z → gGo p l e rJ5_ensureCapacityInternal_d00df s m args below meth c D cy B H0 3 0 0 Q 0 [(0, vR (some x0)), (1, vI x1)] [] M := by
  intro M x0 x1 z hf hK
  unfold b_J5_ensureCapacityInternal_d00df_0 at hf
  have X := gX_w X2
  refine g_aload_n X dJ5_ensureCapacityInternal_d00df_0 rfl rfl ?_
  obtain ⟨hT1, hf⟩ := ck_e hf
  refine g_get (ci := 12) (v := vR (mR M x0 0)) 0 X cdJ4 i_J5_ensureCapacityInternal_d00df_J4 (by decide) k_J5_ensureCapacityInternal_d00df_f15 rfl dJ5_ensureCapacityInternal_d00df_1 rfl hT1 rfl ?_
  obtain ⟨a2, ha2, hf⟩ := dr_e hf
  obtain ⟨hT3, hf⟩ := ck_e hf
  refine g_alen (t0 := 2) X dJ5_ensureCapacityInternal_d00df_4 ha2 hT3 (by decide) rfl ?_
  refine g_aload_n X dJ5_ensureCapacityInternal_d00df_5 rfl rfl ?_
  refine g_get (ci := 12) (v := vI (mI M x0 1)) 1 X cdJ4 i_J5_ensureCapacityInternal_d00df_J4 (by decide) k_J5_ensureCapacityInternal_d00df_f22 rfl dJ5_ensureCapacityInternal_d00df_6 rfl hT1 rfl ?_
  refine g_ishr X dJ5_ensureCapacityInternal_d00df_9 ?_
  refine g_istore_n (lv' := [(2, vI ((Int32.ofNat (mL M a2)) >>> ((mI M x0 1) &&& 31))), (0, vR (some x0)), (1, vI x1)]) X dJ5_ensureCapacityInternal_d00df_10 rfl (by decide) rfl ?_
  refine g_iload_n X dJ5_ensureCapacityInternal_d00df_11 rfl rfl ?_
  refine g_iload_n X dJ5_ensureCapacityInternal_d00df_12 rfl rfl ?_
  refine g_isub X dJ5_ensureCapacityInternal_d00df_13 ?_
  refine g_if_le (tgt := 38) X dJ5_ensureCapacityInternal_d00df_14 (by decide) (fun hc => ?_) (fun hc => ?_)
  · have hf := ife_t hc hf
    refine g_sub (lvsub_of _ _ [] rfl) ?_
    refine g_wide (k' := 1) (n' := 2400) (by decide) (by decide) ?_
    exact t_J5_ensureCapacityInternal_d00df_38 X2 hr _  _ hf hK
  · have hf := ife_f hc hf
    refine g_aload_n X dJ5_ensureCapacityInternal_d00df_17 rfl rfl ?_
    refine g_aload_n X dJ5_ensureCapacityInternal_d00df_18 rfl rfl ?_
    refine g_get (ci := 12) (v := vR (mR M x0 0)) 0 X cdJ4 i_J5_ensureCapacityInternal_d00df_J4 (by decide) k_J5_ensureCapacityInternal_d00df_f15 rfl dJ5_ensureCapacityInternal_d00df_19 rfl hT1 rfl ?_
    refine g_aload_n X dJ5_ensureCapacityInternal_d00df_22 rfl rfl ?_
    refine g_iload_n X dJ5_ensureCapacityInternal_d00df_23 rfl rfl ?_
    obtain ⟨r4, M4, hq4, hf⟩ := bd_e hf
    refine g_callU (C := RJ4) (owner := "java/lang/AbstractStringBuilder") (b := x0) (As := [vI x1]) (st := [vR (mR M x0 0), vR (some x0)]) (v := some (vI r4)) (M1 := M4) X (m_J5_newCapacity_0f7a4 l hq4) (va_cwU 1 X.2.2.1 gJ5_ensureCapacityInternal_d00df_J5_newCapacity_0f7a4_u104J4 rfl rfl rfl (by decide +kernel) (by decide +kernel) ⟨Nat.le_of_ble_eq_true rfl, Nat.le_of_ble_eq_true rfl⟩) rfl rfl rfl (fun H hW => gW_recv (ci := 12) X hW hT1 (by decide) rfl) (Nat.le_of_ble_eq_true rfl) dJ5_ensureCapacityInternal_d00df_24 ⟨by decide, by decide⟩ ?_
    refine g_aload_n X dJ5_ensureCapacityInternal_d00df_27 rfl rfl ?_
    obtain ⟨hT5, hf⟩ := ck_e hf
    refine g_get (ci := 12) (v := vI (mI M4 x0 1)) 1 X cdJ4 i_J5_ensureCapacityInternal_d00df_J4 (by decide) k_J5_ensureCapacityInternal_d00df_f22 rfl dJ5_ensureCapacityInternal_d00df_28 rfl hT5 rfl ?_
    refine g_ishl X dJ5_ensureCapacityInternal_d00df_31 ?_
    obtain ⟨r6, M6, hq6, hf⟩ := bd_e hf
    refine g_callS (As := [vR (mR M x0 0), vI (r4 <<< ((mI M4 x0 1) &&& 31))]) (st := [vR (some x0)]) (v := some (vR r6)) (M1 := M6) X2 (m_J7_copyOf_9075b l hq6) (va_cwS 2 X.2.2.1 gJ5_ensureCapacityInternal_d00df_J7_copyOf_9075b rfl rfl rfl (by decide +kernel) ⟨Nat.le_of_ble_eq_true rfl, Nat.le_of_ble_eq_true rfl⟩) rfl rfl (Nat.le_of_ble_eq_true rfl) dJ5_ensureCapacityInternal_d00df_32 ⟨by decide, by decide⟩ ?_
    obtain ⟨hT7, hf⟩ := ck_e hf
    refine g_putR (ci := 12) 0 X cdJ4 i_J5_ensureCapacityInternal_d00df_J4 (by decide) k_J5_ensureCapacityInternal_d00df_f15 rfl dJ5_ensureCapacityInternal_d00df_35 rfl hT7 (Or.inl rfl) (gnA _ _) (gfA _ _) rfl ?_
    obtain ⟨M8, hM8, hf⟩ := lw_e hf
    rw [← hM8]
    have hT9 : mT M8 x0 = 13 := by rw [hM8]; exact hT7
    refine g_sub (lvsub_of _ _ [] rfl) ?_
    exact t_J5_ensureCapacityInternal_d00df_38 X2 hr _  _ hf hK
set_option maxHeartbeats 4000000 in
set_option maxRecDepth 100000 in
theorem m_J5_ensureCapacityInternal_d00df (l : Launch) {D : va_G} {cy : Nat → ClassId} {B : Nat} {H0 : Heap} {Z : Nat → Nat} {M M1 : gMem} {x0 : Nat} {x1 : Int32} {r : Unit} (hf : f_J5_ensureCapacityInternal_d00df Z M x0 x1 = some (r, M1)) : Met l yJ5_ensureCapacityInternal_d00df wsJ5_ensureCapacityInternal_d00df rJ5_ensureCapacityInternal_d00df (va_Pc (Value.ref x0 :: List.map gv [vI x1]) (gPre D cy B H0 (gSt2 Z B H0) M)) (gQ D cy B H0 none M1) 1 2400 (gA B) := by
  refine Met.ofW (cc := cJ5_ensureCapacityInternal_d00df) (maxL := 3) (ret := none) (by decide) rfl ?_
  intro p e s m args below meth c s₁ Bd hml hv
  obtain ⟨rfl, hW, hKK, hFs⟩ := hv
  have X2 : gX p s m _ meth c D cy B (gSt2 Z B H0) RJ5 cJ5_ensureCapacityInternal_d00df wsJ5_ensureCapacityInternal_d00df 3 := ⟨Bd.exec, Bd.bytes, atoms_spec (ws := wsJ5_ensureCapacityInternal_d00df) Bd.pre, findClass_of_methodNamed Bd.named, hml, hKK, by rw [hW.1]; exact hW.2.1, Bd.notSynchronized, hFs⟩
  have hr := Bd.returns
  have hl := lv_entry ([.ref x0, .int x1]) (n := 3) (Nat.le_of_ble_eq_true rfl)
  show W p l e rJ5_ensureCapacityInternal_d00df s m _ below meth c s.heap [] 0 0 _ (entryFrame m ([.ref x0, .int x1] : List Value).toArray 3)
  rw [lg_entry_eq]
  generalize (lg_sl ([.ref x0, .int x1]) ++ List.replicate (3 - (lg_sl ([.ref x0, .int x1])).length) Slot.unset).toArray = ls at hl ⊢
  have hl : lv_has ls 3 (List.map gq [(0, vR (some x0)), (1, vI x1)]) := hl
  exact t_J5_ensureCapacityInternal_d00df_0 X2 hr _ _ _ _ hf rfl s.heap [] ls hW va_S.rf (lv_has_sub hl (lvsub_of _ _ [0, 1] rfl))
/-! ## java/lang/AbstractStringBuilder.inflateIfNeededFor(Ljava/lang/String;)V -/
theorem dJ5_inflateIfNeededFor_a7421_0 : decode cJ5_inflateIfNeededFor_a7421 0 = .ok (.getstatic 18, 3) := by decide +kernel
theorem dJ5_inflateIfNeededFor_a7421_3 : decode cJ5_inflateIfNeededFor_a7421 3 = .ok (.ifCond .eq 18, 3) := by decide +kernel
theorem dJ5_inflateIfNeededFor_a7421_6 : decode cJ5_inflateIfNeededFor_a7421 6 = .ok (.aload_n 0, 1) := by decide +kernel
theorem dJ5_inflateIfNeededFor_a7421_7 : decode cJ5_inflateIfNeededFor_a7421 7 = .ok (.getfield 22, 3) := by decide +kernel
theorem dJ5_inflateIfNeededFor_a7421_10 : decode cJ5_inflateIfNeededFor_a7421 10 = .ok (.aload_n 1, 1) := by decide +kernel
theorem dJ5_inflateIfNeededFor_a7421_11 : decode cJ5_inflateIfNeededFor_a7421 11 = .ok (.invokevirtual 40, 3) := by decide +kernel
theorem dJ5_inflateIfNeededFor_a7421_14 : decode cJ5_inflateIfNeededFor_a7421 14 = .ok (.if_icmp .eq 7, 3) := by decide +kernel
theorem dJ5_inflateIfNeededFor_a7421_17 : decode cJ5_inflateIfNeededFor_a7421 17 = .ok (.aload_n 0, 1) := by decide +kernel
theorem dJ5_inflateIfNeededFor_a7421_21 : decode cJ5_inflateIfNeededFor_a7421 21 = .ok (.return_, 1) := by decide +kernel
set_option maxRecDepth 20000 in
theorem ggJ5_inflateIfNeededFor_a7421_J0_coder_7d493 : GoodIn wsJ5_inflateIfNeededFor_a7421 wsJ0_coder_7d493 := goodIn_r _ [7, 8, 9, 63, 64, 65, 66] (by decide +kernel) (by decide +kernel)
set_option maxRecDepth 20000 in
theorem gJ5_inflateIfNeededFor_a7421_J0_coder_7d493 : GoodIn wsJ5_inflateIfNeededFor_a7421 (wsV RJ5 40 RJ0 yJ0_coder_7d493 wsJ0_coder_7d493) := goodIn_app (goodIn_of _ (by decide +kernel)) ggJ5_inflateIfNeededFor_a7421_J0_coder_7d493
theorem k_J5_inflateIfNeededFor_a7421_S_f18 : Cond.fieldLink RJ5 18 "java/lang/String" "COMPACT_STRINGS" "Z" ∈ wsJ5_inflateIfNeededFor_a7421 := by decide +kernel
theorem k_J5_inflateIfNeededFor_a7421_S_f22 : Cond.fieldLink RJ5 22 "java/lang/AbstractStringBuilder" "coder" "B" ∈ wsJ5_inflateIfNeededFor_a7421 := by decide +kernel
theorem i_J5_inflateIfNeededFor_a7421_S_J4 : ∀ w ∈ u_ws RJ4 TJ4 4, w ∈ wsJ5_inflateIfNeededFor_a7421 := by decide +kernel
abbrev rJ5_inflateIfNeededFor_a7421_S : Room := { frames := 1, cells := 0, slots := 0, locals := 20 }
noncomputable def b_J5_inflateIfNeededFor_a7421_S_21 (Z : Nat → Nat) (M : gMem)  : Option (Unit × gMem) :=
  some ((), M)
noncomputable def b_J5_inflateIfNeededFor_a7421_S_0 (Z : Nat → Nat) (M : gMem) (x0 : Nat) (x1 : Nat) : Option (Unit × gMem) :=
  ck (mT M x0 = 13) <| ck (x1 < 94) <| bd (f_J0_coder_7d493 Z M x1) fun r2 M2 => (if (mI M x0 1) = r2 then b_J5_inflateIfNeededFor_a7421_S_21 Z M2  else none)
noncomputable def f_J5_inflateIfNeededFor_a7421_S (Z : Nat → Nat) (M : gMem) (x0 : Nat) (x1 : Nat) : Option (Unit × gMem) :=
  b_J5_inflateIfNeededFor_a7421_S_0 Z M x0 x1
set_option maxHeartbeats 4000000 in
set_option maxRecDepth 100000 in
theorem t_J5_inflateIfNeededFor_a7421_S_21 (X : gX p s m args meth c D cy B (gSt Z B H0) RJ5 cJ5_inflateIfNeededFor_a7421 wsJ5_inflateIfNeededFor_a7421 2) (hr : meth.sig.returnType = none) {Q : State → Prop} : ∀ (M : gMem)  (z : Unit × gMem), b_J5_inflateIfNeededFor_a7421_S_21 Z M  = some z → (fun (r : Unit × gMem) => Q = gMQ below D cy B H0 args s 0 0 none r.2) z → gGo p l e rJ5_inflateIfNeededFor_a7421_S s m args below meth c D cy B H0 2 0 0 Q 21 [] [] M := by
  intro M  z hf hK
  unfold b_J5_inflateIfNeededFor_a7421_S_21 at hf
  cases hf
  refine g_eqQ hK ?_
  exact g_vret X hr dJ5_inflateIfNeededFor_a7421_21
set_option maxHeartbeats 4000000 in
set_option maxRecDepth 100000 in
theorem t_J5_inflateIfNeededFor_a7421_S_0 (X : gX p s m args meth c D cy B (gSt Z B H0) RJ5 cJ5_inflateIfNeededFor_a7421 wsJ5_inflateIfNeededFor_a7421 2) (hr : meth.sig.returnType = none) {Q : State → Prop} : ∀ (M : gMem) (x0 : Nat) (x1 : Nat) (z : Unit × gMem), b_J5_inflateIfNeededFor_a7421_S_0 Z M x0 x1 = some z → (fun (r : Unit × gMem) => Q = gMQ below D cy B H0 args s 0 0 none r.2) z → gGo p l e rJ5_inflateIfNeededFor_a7421_S s m args below meth c D cy B H0 2 0 0 Q 0 [(0, vR (some x0)), (1, vR (some (Z (100 + x1))))] [] M := by
  intro M x0 x1 z hf hK
  unfold b_J5_inflateIfNeededFor_a7421_S_0 at hf
  refine g_gets (w := vI 1) X (gSt_CS X) k_J5_inflateIfNeededFor_a7421_S_f18 rfl dJ5_inflateIfNeededFor_a7421_0 ?_
  refine g_if_eq (tgt := 21) X dJ5_inflateIfNeededFor_a7421_3 (by decide) (fun hc => absurd hc (by decide)) (fun _ => ?_)
  refine g_aload_n X dJ5_inflateIfNeededFor_a7421_6 rfl rfl ?_
  obtain ⟨hT1, hf⟩ := ck_e hf
  refine g_get (ci := 12) (v := vI (mI M x0 1)) 1 X cdJ4 i_J5_inflateIfNeededFor_a7421_S_J4 (by decide) k_J5_inflateIfNeededFor_a7421_S_f22 rfl dJ5_inflateIfNeededFor_a7421_7 rfl hT1 rfl ?_
  refine g_aload_n X dJ5_inflateIfNeededFor_a7421_10 rfl rfl ?_
  obtain ⟨hg3, hf⟩ := ck_e hf
  obtain ⟨r2, M2, hq2, hf⟩ := bd_e hf
  refine g_callV0 (C := RJ0) (b := (Z (100 + x1))) (As := []) (st := [vI (mI M x0 1)]) (v := some (vI r2)) (M1 := M2) X (m_J0_coder_7d493 l hq2) (cwV 0 X.2.2.1 gJ5_inflateIfNeededFor_a7421_J0_coder_7d493 rfl rfl rfl (by decide +kernel) ⟨Nat.le_of_ble_eq_true rfl, Nat.le_of_ble_eq_true rfl⟩) rfl rfl rfl (fun H hW => gO_recv (gSt_sO X hg3) hW) (Nat.le_of_ble_eq_true rfl) dJ5_inflateIfNeededFor_a7421_11 ⟨by decide, by decide⟩ ?_
  refine g_icmp_eq (tgt := 21) X dJ5_inflateIfNeededFor_a7421_14 (by decide) (fun hc => ?_) (fun hc => ?_)
  · have hf := ife_t hc hf
    refine g_sub (lvsub_of _ _ [] rfl) ?_
    exact t_J5_inflateIfNeededFor_a7421_S_21 X hr _  _ hf hK
  · have hf := ife_f hc hf
    cases hf
set_option maxHeartbeats 4000000 in
set_option maxRecDepth 100000 in
theorem m_J5_inflateIfNeededFor_a7421_S (l : Launch) {D : va_G} {cy : Nat → ClassId} {B : Nat} {H0 : Heap} {Z : Nat → Nat} {M M1 : gMem} {x0 : Nat} {x1 : Nat} {r : Unit} (hf : f_J5_inflateIfNeededFor_a7421_S Z M x0 x1 = some (r, M1)) : Met l yJ5_inflateIfNeededFor_a7421 wsJ5_inflateIfNeededFor_a7421 rJ5_inflateIfNeededFor_a7421_S (va_Pc (Value.ref x0 :: List.map gv [vR (some (Z (100 + x1)))]) (gPre D cy B H0 (gSt Z B H0) M)) (gQ D cy B H0 none M1) 0 0 (gA B) := by
  refine Met.ofW (cc := cJ5_inflateIfNeededFor_a7421) (maxL := 2) (ret := none) (by decide) rfl ?_
  intro p e s m args below meth c s₁ Bd hml hv
  obtain ⟨rfl, hW, hKK, hFs⟩ := hv
  have X : gX p s m _ meth c D cy B (gSt Z B H0) RJ5 cJ5_inflateIfNeededFor_a7421 wsJ5_inflateIfNeededFor_a7421 2 := ⟨Bd.exec, Bd.bytes, atoms_spec (ws := wsJ5_inflateIfNeededFor_a7421) Bd.pre, findClass_of_methodNamed Bd.named, hml, hKK, by rw [hW.1]; exact hW.2.1, Bd.notSynchronized, hFs⟩
  have hr := Bd.returns
  have hl := lv_entry ([.ref x0, .ref (Z (100 + x1))]) (n := 2) (Nat.le_of_ble_eq_true rfl)
  show W p l e rJ5_inflateIfNeededFor_a7421_S s m _ below meth c s.heap [] 0 0 _ (entryFrame m ([.ref x0, .ref (Z (100 + x1))] : List Value).toArray 2)
  rw [lg_entry_eq]
  generalize (lg_sl ([.ref x0, .ref (Z (100 + x1))]) ++ List.replicate (2 - (lg_sl ([.ref x0, .ref (Z (100 + x1))])).length) Slot.unset).toArray = ls at hl ⊢
  have hl : lv_has ls 2 (List.map gq [(0, vR (some x0)), (1, vR (some (Z (100 + x1))))]) := hl
  exact t_J5_inflateIfNeededFor_a7421_S_0 X hr _ _ _ _ hf rfl s.heap [] ls hW va_S.rf (lv_has_sub hl (lvsub_of _ _ [0, 1] rfl))
/-! ## java/lang/AbstractStringBuilder.inflateIfNeededFor(Ljava/lang/String;)V -/
theorem k_J5_inflateIfNeededFor_a7421_r_f18 : Cond.fieldLink RJ5 18 "java/lang/String" "COMPACT_STRINGS" "Z" ∈ wsJ5_inflateIfNeededFor_a7421 := by decide +kernel
theorem k_J5_inflateIfNeededFor_a7421_r_f22 : Cond.fieldLink RJ5 22 "java/lang/AbstractStringBuilder" "coder" "B" ∈ wsJ5_inflateIfNeededFor_a7421 := by decide +kernel
theorem i_J5_inflateIfNeededFor_a7421_r_J4 : ∀ w ∈ u_ws RJ4 TJ4 4, w ∈ wsJ5_inflateIfNeededFor_a7421 := by decide +kernel
abbrev rJ5_inflateIfNeededFor_a7421_r : Room := { frames := 1, cells := 0, slots := 0, locals := 20 }
noncomputable def b_J5_inflateIfNeededFor_a7421_r_21 (Z : Nat → Nat) (M : gMem)  : Option (Unit × gMem) :=
  some ((), M)
noncomputable def b_J5_inflateIfNeededFor_a7421_r_0 (Z : Nat → Nat) (M : gMem) (x0 : Nat) (x1 : Option Nat) : Option (Unit × gMem) :=
  ck (mT M x0 = 13) <| dr x1 fun a3 => ck (mT M a3 = 12) <| bd (f_J0_coder_7d493_r Z M a3) fun r2 M2 => (if (mI M x0 1) = r2 then b_J5_inflateIfNeededFor_a7421_r_21 Z M2  else none)
noncomputable def f_J5_inflateIfNeededFor_a7421_r (Z : Nat → Nat) (M : gMem) (x0 : Nat) (x1 : Option Nat) : Option (Unit × gMem) :=
  b_J5_inflateIfNeededFor_a7421_r_0 Z M x0 x1
set_option maxHeartbeats 4000000 in
set_option maxRecDepth 100000 in
theorem t_J5_inflateIfNeededFor_a7421_r_21 (X : gX p s m args meth c D cy B (gSt Z B H0) RJ5 cJ5_inflateIfNeededFor_a7421 wsJ5_inflateIfNeededFor_a7421 2) (hr : meth.sig.returnType = none) {Q : State → Prop} : ∀ (M : gMem)  (z : Unit × gMem), b_J5_inflateIfNeededFor_a7421_r_21 Z M  = some z → (fun (r : Unit × gMem) => Q = gMQ below D cy B H0 args s 0 0 none r.2) z → gGo p l e rJ5_inflateIfNeededFor_a7421_r s m args below meth c D cy B H0 2 0 0 Q 21 [] [] M := by
  intro M  z hf hK
  unfold b_J5_inflateIfNeededFor_a7421_r_21 at hf
  cases hf
  refine g_eqQ hK ?_
  exact g_vret X hr dJ5_inflateIfNeededFor_a7421_21
set_option maxHeartbeats 4000000 in
set_option maxRecDepth 100000 in
theorem t_J5_inflateIfNeededFor_a7421_r_0 (X : gX p s m args meth c D cy B (gSt Z B H0) RJ5 cJ5_inflateIfNeededFor_a7421 wsJ5_inflateIfNeededFor_a7421 2) (hr : meth.sig.returnType = none) {Q : State → Prop} : ∀ (M : gMem) (x0 : Nat) (x1 : Option Nat) (z : Unit × gMem), b_J5_inflateIfNeededFor_a7421_r_0 Z M x0 x1 = some z → (fun (r : Unit × gMem) => Q = gMQ below D cy B H0 args s 0 0 none r.2) z → gGo p l e rJ5_inflateIfNeededFor_a7421_r s m args below meth c D cy B H0 2 0 0 Q 0 [(0, vR (some x0)), (1, vR x1)] [] M := by
  intro M x0 x1 z hf hK
  unfold b_J5_inflateIfNeededFor_a7421_r_0 at hf
  refine g_gets (w := vI 1) X (gSt_CS X) k_J5_inflateIfNeededFor_a7421_r_f18 rfl dJ5_inflateIfNeededFor_a7421_0 ?_
  refine g_if_eq (tgt := 21) X dJ5_inflateIfNeededFor_a7421_3 (by decide) (fun hc => absurd hc (by decide)) (fun _ => ?_)
  refine g_aload_n X dJ5_inflateIfNeededFor_a7421_6 rfl rfl ?_
  obtain ⟨hT1, hf⟩ := ck_e hf
  refine g_get (ci := 12) (v := vI (mI M x0 1)) 1 X cdJ4 i_J5_inflateIfNeededFor_a7421_r_J4 (by decide) k_J5_inflateIfNeededFor_a7421_r_f22 rfl dJ5_inflateIfNeededFor_a7421_7 rfl hT1 rfl ?_
  refine g_aload_n X dJ5_inflateIfNeededFor_a7421_10 rfl rfl ?_
  obtain ⟨a3, ha3, hf⟩ := dr_e hf
  obtain ⟨hT4, hf⟩ := ck_e hf
  obtain ⟨r2, M2, hq2, hf⟩ := bd_e hf
  refine g_callV (ci := 11) (b := a3) (As := []) (st := [vI (mI M x0 1)]) (v := some (vI r2)) (M1 := M2) X (m_J0_coder_7d493_r l hq2) (cwV 0 X.2.2.1 gJ5_inflateIfNeededFor_a7421_J0_coder_7d493 rfl rfl rfl (by decide +kernel) ⟨Nat.le_of_ble_eq_true rfl, Nat.le_of_ble_eq_true rfl⟩) rfl rfl ha3 hT4 (by decide) rfl (Nat.le_of_ble_eq_true rfl) dJ5_inflateIfNeededFor_a7421_11 ⟨by decide, by decide⟩ ?_
  refine g_icmp_eq (tgt := 21) X dJ5_inflateIfNeededFor_a7421_14 (by decide) (fun hc => ?_) (fun hc => ?_)
  · have hf := ife_t hc hf
    refine g_sub (lvsub_of _ _ [] rfl) ?_
    exact t_J5_inflateIfNeededFor_a7421_r_21 X hr _  _ hf hK
  · have hf := ife_f hc hf
    cases hf
set_option maxHeartbeats 4000000 in
set_option maxRecDepth 100000 in
theorem m_J5_inflateIfNeededFor_a7421_r (l : Launch) {D : va_G} {cy : Nat → ClassId} {B : Nat} {H0 : Heap} {Z : Nat → Nat} {M M1 : gMem} {x0 : Nat} {x1 : Option Nat} {r : Unit} (hf : f_J5_inflateIfNeededFor_a7421_r Z M x0 x1 = some (r, M1)) : Met l yJ5_inflateIfNeededFor_a7421 wsJ5_inflateIfNeededFor_a7421 rJ5_inflateIfNeededFor_a7421_r (va_Pc (Value.ref x0 :: List.map gv [vR x1]) (gPre D cy B H0 (gSt Z B H0) M)) (gQ D cy B H0 none M1) 0 0 (gA B) := by
  refine Met.ofW (cc := cJ5_inflateIfNeededFor_a7421) (maxL := 2) (ret := none) (by decide) rfl ?_
  intro p e s m args below meth c s₁ Bd hml hv
  obtain ⟨rfl, hW, hKK, hFs⟩ := hv
  have X : gX p s m _ meth c D cy B (gSt Z B H0) RJ5 cJ5_inflateIfNeededFor_a7421 wsJ5_inflateIfNeededFor_a7421 2 := ⟨Bd.exec, Bd.bytes, atoms_spec (ws := wsJ5_inflateIfNeededFor_a7421) Bd.pre, findClass_of_methodNamed Bd.named, hml, hKK, by rw [hW.1]; exact hW.2.1, Bd.notSynchronized, hFs⟩
  have hr := Bd.returns
  rcases x1 with _ | x1
  · have hl := lv_entry ([.ref x0, .null]) (n := 2) (Nat.le_of_ble_eq_true rfl)
    show W p l e rJ5_inflateIfNeededFor_a7421_r s m _ below meth c s.heap [] 0 0 _ (entryFrame m ([.ref x0, .null] : List Value).toArray 2)
    rw [lg_entry_eq]
    generalize (lg_sl ([.ref x0, .null]) ++ List.replicate (2 - (lg_sl ([.ref x0, .null])).length) Slot.unset).toArray = ls at hl ⊢
    have hl : lv_has ls 2 (List.map gq [(0, vR (some x0)), (1, vR none)]) := hl
    exact t_J5_inflateIfNeededFor_a7421_r_0 X hr _ _ _ _ hf rfl s.heap [] ls hW va_S.rf (lv_has_sub hl (lvsub_of _ _ [0, 1] rfl))
  · have hl := lv_entry ([.ref x0, .ref x1]) (n := 2) (Nat.le_of_ble_eq_true rfl)
    show W p l e rJ5_inflateIfNeededFor_a7421_r s m _ below meth c s.heap [] 0 0 _ (entryFrame m ([.ref x0, .ref x1] : List Value).toArray 2)
    rw [lg_entry_eq]
    generalize (lg_sl ([.ref x0, .ref x1]) ++ List.replicate (2 - (lg_sl ([.ref x0, .ref x1])).length) Slot.unset).toArray = ls at hl ⊢
    have hl : lv_has ls 2 (List.map gq [(0, vR (some x0)), (1, vR (some x1))]) := hl
    exact t_J5_inflateIfNeededFor_a7421_r_0 X hr _ _ _ _ hf rfl s.heap [] ls hW va_S.rf (lv_has_sub hl (lvsub_of _ _ [0, 1] rfl))
/-! ## java/lang/AbstractStringBuilder.putStringAt(ILjava/lang/String;)V -/
theorem dJ5_putStringAt_47b60_0 : decode cJ5_putStringAt_47b60 0 = .ok (.aload_n 0, 1) := by decide +kernel
theorem dJ5_putStringAt_47b60_1 : decode cJ5_putStringAt_47b60 1 = .ok (.aload_n 2, 1) := by decide +kernel
theorem dJ5_putStringAt_47b60_2 : decode cJ5_putStringAt_47b60 2 = .ok (.invokevirtual 397, 3) := by decide +kernel
theorem dJ5_putStringAt_47b60_5 : decode cJ5_putStringAt_47b60 5 = .ok (.aload_n 2, 1) := by decide +kernel
theorem dJ5_putStringAt_47b60_6 : decode cJ5_putStringAt_47b60 6 = .ok (.aload_n 0, 1) := by decide +kernel
theorem dJ5_putStringAt_47b60_7 : decode cJ5_putStringAt_47b60 7 = .ok (.getfield 15, 3) := by decide +kernel
theorem dJ5_putStringAt_47b60_10 : decode cJ5_putStringAt_47b60 10 = .ok (.iload_n 1, 1) := by decide +kernel
theorem dJ5_putStringAt_47b60_11 : decode cJ5_putStringAt_47b60 11 = .ok (.aload_n 0, 1) := by decide +kernel
theorem dJ5_putStringAt_47b60_12 : decode cJ5_putStringAt_47b60 12 = .ok (.getfield 22, 3) := by decide +kernel
theorem dJ5_putStringAt_47b60_15 : decode cJ5_putStringAt_47b60 15 = .ok (.invokevirtual 399, 3) := by decide +kernel
theorem dJ5_putStringAt_47b60_18 : decode cJ5_putStringAt_47b60 18 = .ok (.return_, 1) := by decide +kernel
set_option maxRecDepth 20000 in
theorem ggJ5_putStringAt_47b60_J5_inflateIfNeededFor_a7421 : GoodIn wsJ5_putStringAt_47b60 wsJ5_inflateIfNeededFor_a7421 := goodIn_2 24 (goodIn_r _ [8, 9, 2, 10, 11, 12, 13, 14, 15, 16, 17, 18, 19, 20, 7, 21, 1, 22, 23, 24, 25, 26, 27, 28] (by decide +kernel) (by decide +kernel)) (goodIn_2 24 (goodIn_r _ [29, 30, 31, 32, 33, 34, 35, 36, 37, 38, 39, 40, 41, 42, 43, 44, 45, 46, 47, 48, 49, 50, 51, 52] (by decide +kernel) (by decide +kernel)) (goodIn_r _ [53, 54, 55, 56, 57, 58, 59, 60, 61, 62, 63, 75, 76, 77, 78, 79, 80, 81, 82] (by decide +kernel) (by decide +kernel)))
set_option maxRecDepth 20000 in
theorem gJ5_putStringAt_47b60_J5_inflateIfNeededFor_a7421_u397J4 : GoodIn wsJ5_putStringAt_47b60 (va_wsU RJ5 397 RJ4 "java/lang/AbstractStringBuilder" ⟨"java/lang/AbstractStringBuilder", "inflateIfNeededFor", "(Ljava/lang/String;)V"⟩ yJ5_inflateIfNeededFor_a7421 wsJ5_inflateIfNeededFor_a7421) := goodIn_app (goodIn_of _ (by decide +kernel)) ggJ5_putStringAt_47b60_J5_inflateIfNeededFor_a7421
set_option maxRecDepth 20000 in
theorem ggJ5_putStringAt_47b60_J0_getBytes_840e7 : GoodIn wsJ5_putStringAt_47b60 wsJ0_getBytes_840e7 := goodIn_2 24 (goodIn_r _ [67, 68, 69, 70, 71, 72, 73, 11, 12, 13, 14, 15, 16, 74, 38, 39, 40, 41, 42, 30, 43, 44, 45, 46] (by decide +kernel) (by decide +kernel)) (goodIn_r _ [47, 48, 49, 50, 51, 52, 53, 54, 55, 56, 57, 58, 59, 60, 61, 62, 63, 79, 80, 81, 82] (by decide +kernel) (by decide +kernel))
set_option maxRecDepth 20000 in
theorem gJ5_putStringAt_47b60_J0_getBytes_840e7 : GoodIn wsJ5_putStringAt_47b60 (wsV RJ5 399 RJ0 yJ0_getBytes_840e7 wsJ0_getBytes_840e7) := goodIn_app (goodIn_of _ (by decide +kernel)) ggJ5_putStringAt_47b60_J0_getBytes_840e7
theorem k_J5_putStringAt_47b60_S_f15 : Cond.fieldLink RJ5 15 "java/lang/AbstractStringBuilder" "value" "[B" ∈ wsJ5_putStringAt_47b60 := by decide +kernel
theorem i_J5_putStringAt_47b60_S_J4 : ∀ w ∈ u_ws RJ4 TJ4 4, w ∈ wsJ5_putStringAt_47b60 := by decide +kernel
theorem k_J5_putStringAt_47b60_S_f22 : Cond.fieldLink RJ5 22 "java/lang/AbstractStringBuilder" "coder" "B" ∈ wsJ5_putStringAt_47b60 := by decide +kernel
abbrev rJ5_putStringAt_47b60_S : Room := { frames := 2, cells := 0, slots := 0, locals := 83 }
noncomputable def b_J5_putStringAt_47b60_S_0 (Z : Nat → Nat) (M : gMem) (x0 : Nat) (x1 : Int32) (x2 : Nat) : Option (Unit × gMem) :=
  ck (mT M x0 = 13) <| bd (f_J5_inflateIfNeededFor_a7421_S Z M x0 x2) fun _ M1 => ck (mT M1 x0 = 13) <| ck (x2 < 94) <| bd (f_J0_getBytes_840e7_S Z M1 x2 ((mR M1 x0 0)) x1 ((mI M1 x0 1))) fun _ M4 => some ((), M4)
noncomputable def f_J5_putStringAt_47b60_S (Z : Nat → Nat) (M : gMem) (x0 : Nat) (x1 : Int32) (x2 : Nat) : Option (Unit × gMem) :=
  b_J5_putStringAt_47b60_S_0 Z M x0 x1 x2
set_option maxHeartbeats 4000000 in
set_option maxRecDepth 100000 in
theorem t_J5_putStringAt_47b60_S_0 (X : gX p s m args meth c D cy B (gSt Z B H0) RJ5 cJ5_putStringAt_47b60 wsJ5_putStringAt_47b60 3) (hr : meth.sig.returnType = none) {Q : State → Prop} : ∀ (M : gMem) (x0 : Nat) (x1 : Int32) (x2 : Nat) (z : Unit × gMem), b_J5_putStringAt_47b60_S_0 Z M x0 x1 x2 = some z → (fun (r : Unit × gMem) => Q = gMQ below D cy B H0 args s 0 0 none r.2) z → gGo p l e rJ5_putStringAt_47b60_S s m args below meth c D cy B H0 3 0 0 Q 0 [(0, vR (some x0)), (1, vI x1), (2, vR (some (Z (100 + x2))))] [] M := by
  intro M x0 x1 x2 z hf hK
  unfold b_J5_putStringAt_47b60_S_0 at hf
  refine g_aload_n X dJ5_putStringAt_47b60_0 rfl rfl ?_
  refine g_aload_n X dJ5_putStringAt_47b60_1 rfl rfl ?_
  obtain ⟨hT2, hf⟩ := ck_e hf
  obtain ⟨r1, M1, hq1, hf⟩ := bd_e hf
  refine g_callU (C := RJ4) (owner := "java/lang/AbstractStringBuilder") (b := x0) (As := [vR (some (Z (100 + x2)))]) (st := []) (v := none) (M1 := M1) X (m_J5_inflateIfNeededFor_a7421_S l hq1) (va_cwU 1 X.2.2.1 gJ5_putStringAt_47b60_J5_inflateIfNeededFor_a7421_u397J4 rfl rfl rfl (by decide +kernel) (by decide +kernel) ⟨Nat.le_of_ble_eq_true rfl, Nat.le_of_ble_eq_true rfl⟩) rfl rfl rfl (fun H hW => gW_recv (ci := 12) X hW hT2 (by decide) rfl) (Nat.le_of_ble_eq_true rfl) dJ5_putStringAt_47b60_2 ⟨by decide, by decide⟩ ?_
  refine g_aload_n X dJ5_putStringAt_47b60_5 rfl rfl ?_
  refine g_aload_n X dJ5_putStringAt_47b60_6 rfl rfl ?_
  obtain ⟨hT3, hf⟩ := ck_e hf
  refine g_get (ci := 12) (v := vR (mR M1 x0 0)) 0 X cdJ4 i_J5_putStringAt_47b60_S_J4 (by decide) k_J5_putStringAt_47b60_S_f15 rfl dJ5_putStringAt_47b60_7 rfl hT3 rfl ?_
  refine g_iload_n X dJ5_putStringAt_47b60_10 rfl rfl ?_
  refine g_aload_n X dJ5_putStringAt_47b60_11 rfl rfl ?_
  refine g_get (ci := 12) (v := vI (mI M1 x0 1)) 1 X cdJ4 i_J5_putStringAt_47b60_S_J4 (by decide) k_J5_putStringAt_47b60_S_f22 rfl dJ5_putStringAt_47b60_12 rfl hT3 rfl ?_
  obtain ⟨hg5, hf⟩ := ck_e hf
  obtain ⟨r4, M4, hq4, hf⟩ := bd_e hf
  refine g_callV0 (C := RJ0) (b := (Z (100 + x2))) (As := [vR (mR M1 x0 0), vI x1, vI (mI M1 x0 1)]) (st := []) (v := none) (M1 := M4) X (m_J0_getBytes_840e7_S l hq4) (cwV 3 X.2.2.1 gJ5_putStringAt_47b60_J0_getBytes_840e7 rfl rfl rfl (by decide +kernel) ⟨Nat.le_of_ble_eq_true rfl, Nat.le_of_ble_eq_true rfl⟩) rfl rfl rfl (fun H hW => gO_recv (gSt_sO X hg5) hW) (Nat.le_of_ble_eq_true rfl) dJ5_putStringAt_47b60_15 ⟨by decide, by decide⟩ ?_
  cases hf
  refine g_eqQ hK ?_
  exact g_vret X hr dJ5_putStringAt_47b60_18
set_option maxHeartbeats 4000000 in
set_option maxRecDepth 100000 in
theorem m_J5_putStringAt_47b60_S (l : Launch) {D : va_G} {cy : Nat → ClassId} {B : Nat} {H0 : Heap} {Z : Nat → Nat} {M M1 : gMem} {x0 : Nat} {x1 : Int32} {x2 : Nat} {r : Unit} (hf : f_J5_putStringAt_47b60_S Z M x0 x1 x2 = some (r, M1)) : Met l yJ5_putStringAt_47b60 wsJ5_putStringAt_47b60 rJ5_putStringAt_47b60_S (va_Pc (Value.ref x0 :: List.map gv [vI x1, vR (some (Z (100 + x2)))]) (gPre D cy B H0 (gSt Z B H0) M)) (gQ D cy B H0 none M1) 0 0 (gA B) := by
  refine Met.ofW (cc := cJ5_putStringAt_47b60) (maxL := 3) (ret := none) (by decide) rfl ?_
  intro p e s m args below meth c s₁ Bd hml hv
  obtain ⟨rfl, hW, hKK, hFs⟩ := hv
  have X : gX p s m _ meth c D cy B (gSt Z B H0) RJ5 cJ5_putStringAt_47b60 wsJ5_putStringAt_47b60 3 := ⟨Bd.exec, Bd.bytes, atoms_spec (ws := wsJ5_putStringAt_47b60) Bd.pre, findClass_of_methodNamed Bd.named, hml, hKK, by rw [hW.1]; exact hW.2.1, Bd.notSynchronized, hFs⟩
  have hr := Bd.returns
  have hl := lv_entry ([.ref x0, .int x1, .ref (Z (100 + x2))]) (n := 3) (Nat.le_of_ble_eq_true rfl)
  show W p l e rJ5_putStringAt_47b60_S s m _ below meth c s.heap [] 0 0 _ (entryFrame m ([.ref x0, .int x1, .ref (Z (100 + x2))] : List Value).toArray 3)
  rw [lg_entry_eq]
  generalize (lg_sl ([.ref x0, .int x1, .ref (Z (100 + x2))]) ++ List.replicate (3 - (lg_sl ([.ref x0, .int x1, .ref (Z (100 + x2))])).length) Slot.unset).toArray = ls at hl ⊢
  have hl : lv_has ls 3 (List.map gq [(0, vR (some x0)), (1, vI x1), (2, vR (some (Z (100 + x2))))]) := hl
  exact t_J5_putStringAt_47b60_S_0 X hr _ _ _ _ _ hf rfl s.heap [] ls hW va_S.rf (lv_has_sub hl (lvsub_of _ _ [0, 1, 2] rfl))
/-! ## java/lang/AbstractStringBuilder.putStringAt(ILjava/lang/String;)V -/
theorem k_J5_putStringAt_47b60_r_f15 : Cond.fieldLink RJ5 15 "java/lang/AbstractStringBuilder" "value" "[B" ∈ wsJ5_putStringAt_47b60 := by decide +kernel
theorem i_J5_putStringAt_47b60_r_J4 : ∀ w ∈ u_ws RJ4 TJ4 4, w ∈ wsJ5_putStringAt_47b60 := by decide +kernel
theorem k_J5_putStringAt_47b60_r_f22 : Cond.fieldLink RJ5 22 "java/lang/AbstractStringBuilder" "coder" "B" ∈ wsJ5_putStringAt_47b60 := by decide +kernel
abbrev rJ5_putStringAt_47b60_r : Room := { frames := 2, cells := 0, slots := 0, locals := 83 }
noncomputable def b_J5_putStringAt_47b60_r_0 (Z : Nat → Nat) (M : gMem) (x0 : Nat) (x1 : Int32) (x2 : Option Nat) : Option (Unit × gMem) :=
  ck (mT M x0 = 13) <| bd (f_J5_inflateIfNeededFor_a7421_r Z M x0 x2) fun _ M1 => ck (mT M1 x0 = 13) <| dr x2 fun a5 => ck (mT M1 a5 = 12) <| bd (f_J0_getBytes_840e7_r Z M1 a5 ((mR M1 x0 0)) x1 ((mI M1 x0 1))) fun _ M4 => some ((), M4)
noncomputable def f_J5_putStringAt_47b60_r (Z : Nat → Nat) (M : gMem) (x0 : Nat) (x1 : Int32) (x2 : Option Nat) : Option (Unit × gMem) :=
  b_J5_putStringAt_47b60_r_0 Z M x0 x1 x2
set_option maxHeartbeats 4000000 in
set_option maxRecDepth 100000 in
theorem t_J5_putStringAt_47b60_r_0 (X : gX p s m args meth c D cy B (gSt Z B H0) RJ5 cJ5_putStringAt_47b60 wsJ5_putStringAt_47b60 3) (hr : meth.sig.returnType = none) {Q : State → Prop} : ∀ (M : gMem) (x0 : Nat) (x1 : Int32) (x2 : Option Nat) (z : Unit × gMem), b_J5_putStringAt_47b60_r_0 Z M x0 x1 x2 = some z → (fun (r : Unit × gMem) => Q = gMQ below D cy B H0 args s 0 0 none r.2) z → gGo p l e rJ5_putStringAt_47b60_r s m args below meth c D cy B H0 3 0 0 Q 0 [(0, vR (some x0)), (1, vI x1), (2, vR x2)] [] M := by
  intro M x0 x1 x2 z hf hK
  unfold b_J5_putStringAt_47b60_r_0 at hf
  refine g_aload_n X dJ5_putStringAt_47b60_0 rfl rfl ?_
  refine g_aload_n X dJ5_putStringAt_47b60_1 rfl rfl ?_
  obtain ⟨hT2, hf⟩ := ck_e hf
  obtain ⟨r1, M1, hq1, hf⟩ := bd_e hf
  refine g_callU (C := RJ4) (owner := "java/lang/AbstractStringBuilder") (b := x0) (As := [vR x2]) (st := []) (v := none) (M1 := M1) X (m_J5_inflateIfNeededFor_a7421_r l hq1) (va_cwU 1 X.2.2.1 gJ5_putStringAt_47b60_J5_inflateIfNeededFor_a7421_u397J4 rfl rfl rfl (by decide +kernel) (by decide +kernel) ⟨Nat.le_of_ble_eq_true rfl, Nat.le_of_ble_eq_true rfl⟩) rfl rfl rfl (fun H hW => gW_recv (ci := 12) X hW hT2 (by decide) rfl) (Nat.le_of_ble_eq_true rfl) dJ5_putStringAt_47b60_2 ⟨by decide, by decide⟩ ?_
  refine g_aload_n X dJ5_putStringAt_47b60_5 rfl rfl ?_
  refine g_aload_n X dJ5_putStringAt_47b60_6 rfl rfl ?_
  obtain ⟨hT3, hf⟩ := ck_e hf
  refine g_get (ci := 12) (v := vR (mR M1 x0 0)) 0 X cdJ4 i_J5_putStringAt_47b60_r_J4 (by decide) k_J5_putStringAt_47b60_r_f15 rfl dJ5_putStringAt_47b60_7 rfl hT3 rfl ?_
  refine g_iload_n X dJ5_putStringAt_47b60_10 rfl rfl ?_
  refine g_aload_n X dJ5_putStringAt_47b60_11 rfl rfl ?_
  refine g_get (ci := 12) (v := vI (mI M1 x0 1)) 1 X cdJ4 i_J5_putStringAt_47b60_r_J4 (by decide) k_J5_putStringAt_47b60_r_f22 rfl dJ5_putStringAt_47b60_12 rfl hT3 rfl ?_
  obtain ⟨a5, ha5, hf⟩ := dr_e hf
  obtain ⟨hT6, hf⟩ := ck_e hf
  obtain ⟨r4, M4, hq4, hf⟩ := bd_e hf
  refine g_callV (ci := 11) (b := a5) (As := [vR (mR M1 x0 0), vI x1, vI (mI M1 x0 1)]) (st := []) (v := none) (M1 := M4) X (m_J0_getBytes_840e7_r l hq4) (cwV 3 X.2.2.1 gJ5_putStringAt_47b60_J0_getBytes_840e7 rfl rfl rfl (by decide +kernel) ⟨Nat.le_of_ble_eq_true rfl, Nat.le_of_ble_eq_true rfl⟩) rfl rfl ha5 hT6 (by decide) rfl (Nat.le_of_ble_eq_true rfl) dJ5_putStringAt_47b60_15 ⟨by decide, by decide⟩ ?_
  cases hf
  refine g_eqQ hK ?_
  exact g_vret X hr dJ5_putStringAt_47b60_18
set_option maxHeartbeats 4000000 in
set_option maxRecDepth 100000 in
theorem m_J5_putStringAt_47b60_r (l : Launch) {D : va_G} {cy : Nat → ClassId} {B : Nat} {H0 : Heap} {Z : Nat → Nat} {M M1 : gMem} {x0 : Nat} {x1 : Int32} {x2 : Option Nat} {r : Unit} (hf : f_J5_putStringAt_47b60_r Z M x0 x1 x2 = some (r, M1)) : Met l yJ5_putStringAt_47b60 wsJ5_putStringAt_47b60 rJ5_putStringAt_47b60_r (va_Pc (Value.ref x0 :: List.map gv [vI x1, vR x2]) (gPre D cy B H0 (gSt Z B H0) M)) (gQ D cy B H0 none M1) 0 0 (gA B) := by
  refine Met.ofW (cc := cJ5_putStringAt_47b60) (maxL := 3) (ret := none) (by decide) rfl ?_
  intro p e s m args below meth c s₁ Bd hml hv
  obtain ⟨rfl, hW, hKK, hFs⟩ := hv
  have X : gX p s m _ meth c D cy B (gSt Z B H0) RJ5 cJ5_putStringAt_47b60 wsJ5_putStringAt_47b60 3 := ⟨Bd.exec, Bd.bytes, atoms_spec (ws := wsJ5_putStringAt_47b60) Bd.pre, findClass_of_methodNamed Bd.named, hml, hKK, by rw [hW.1]; exact hW.2.1, Bd.notSynchronized, hFs⟩
  have hr := Bd.returns
  rcases x2 with _ | x2
  · have hl := lv_entry ([.ref x0, .int x1, .null]) (n := 3) (Nat.le_of_ble_eq_true rfl)
    show W p l e rJ5_putStringAt_47b60_r s m _ below meth c s.heap [] 0 0 _ (entryFrame m ([.ref x0, .int x1, .null] : List Value).toArray 3)
    rw [lg_entry_eq]
    generalize (lg_sl ([.ref x0, .int x1, .null]) ++ List.replicate (3 - (lg_sl ([.ref x0, .int x1, .null])).length) Slot.unset).toArray = ls at hl ⊢
    have hl : lv_has ls 3 (List.map gq [(0, vR (some x0)), (1, vI x1), (2, vR none)]) := hl
    exact t_J5_putStringAt_47b60_r_0 X hr _ _ _ _ _ hf rfl s.heap [] ls hW va_S.rf (lv_has_sub hl (lvsub_of _ _ [0, 1, 2] rfl))
  · have hl := lv_entry ([.ref x0, .int x1, .ref x2]) (n := 3) (Nat.le_of_ble_eq_true rfl)
    show W p l e rJ5_putStringAt_47b60_r s m _ below meth c s.heap [] 0 0 _ (entryFrame m ([.ref x0, .int x1, .ref x2] : List Value).toArray 3)
    rw [lg_entry_eq]
    generalize (lg_sl ([.ref x0, .int x1, .ref x2]) ++ List.replicate (3 - (lg_sl ([.ref x0, .int x1, .ref x2])).length) Slot.unset).toArray = ls at hl ⊢
    have hl : lv_has ls 3 (List.map gq [(0, vR (some x0)), (1, vI x1), (2, vR (some x2))]) := hl
    exact t_J5_putStringAt_47b60_r_0 X hr _ _ _ _ _ hf rfl s.heap [] ls hW va_S.rf (lv_has_sub hl (lvsub_of _ _ [0, 1, 2] rfl))
/-! ## java/lang/AbstractStringBuilder.append(Ljava/lang/String;)Ljava/lang/AbstractStringBuilder; -/
theorem dJ5_append_cf1ce_0 : decode cJ5_append_cf1ce 0 = .ok (.aload_n 1, 1) := by decide +kernel
theorem dJ5_append_cf1ce_1 : decode cJ5_append_cf1ce 1 = .ok (.ifnonnull 8, 3) := by decide +kernel
theorem dJ5_append_cf1ce_4 : decode cJ5_append_cf1ce 4 = .ok (.aload_n 0, 1) := by decide +kernel
theorem dJ5_append_cf1ce_9 : decode cJ5_append_cf1ce 9 = .ok (.aload_n 1, 1) := by decide +kernel
theorem dJ5_append_cf1ce_10 : decode cJ5_append_cf1ce 10 = .ok (.invokevirtual 32, 3) := by decide +kernel
theorem dJ5_append_cf1ce_13 : decode cJ5_append_cf1ce 13 = .ok (.istore_n 2, 1) := by decide +kernel
theorem dJ5_append_cf1ce_14 : decode cJ5_append_cf1ce 14 = .ok (.aload_n 0, 1) := by decide +kernel
theorem dJ5_append_cf1ce_15 : decode cJ5_append_cf1ce 15 = .ok (.aload_n 0, 1) := by decide +kernel
theorem dJ5_append_cf1ce_16 : decode cJ5_append_cf1ce 16 = .ok (.getfield 79, 3) := by decide +kernel
theorem dJ5_append_cf1ce_19 : decode cJ5_append_cf1ce 19 = .ok (.iload_n 2, 1) := by decide +kernel
theorem dJ5_append_cf1ce_20 : decode cJ5_append_cf1ce 20 = .ok (.iadd, 1) := by decide +kernel
theorem dJ5_append_cf1ce_21 : decode cJ5_append_cf1ce 21 = .ok (.invokevirtual 100, 3) := by decide +kernel
theorem dJ5_append_cf1ce_24 : decode cJ5_append_cf1ce 24 = .ok (.aload_n 0, 1) := by decide +kernel
theorem dJ5_append_cf1ce_25 : decode cJ5_append_cf1ce 25 = .ok (.aload_n 0, 1) := by decide +kernel
theorem dJ5_append_cf1ce_26 : decode cJ5_append_cf1ce 26 = .ok (.getfield 79, 3) := by decide +kernel
theorem dJ5_append_cf1ce_29 : decode cJ5_append_cf1ce 29 = .ok (.aload_n 1, 1) := by decide +kernel
theorem dJ5_append_cf1ce_30 : decode cJ5_append_cf1ce 30 = .ok (.invokevirtual 208, 3) := by decide +kernel
theorem dJ5_append_cf1ce_33 : decode cJ5_append_cf1ce 33 = .ok (.aload_n 0, 1) := by decide +kernel
theorem dJ5_append_cf1ce_34 : decode cJ5_append_cf1ce 34 = .ok (.dup, 1) := by decide +kernel
theorem dJ5_append_cf1ce_35 : decode cJ5_append_cf1ce 35 = .ok (.getfield 79, 3) := by decide +kernel
theorem dJ5_append_cf1ce_38 : decode cJ5_append_cf1ce 38 = .ok (.iload_n 2, 1) := by decide +kernel
theorem dJ5_append_cf1ce_39 : decode cJ5_append_cf1ce 39 = .ok (.iadd, 1) := by decide +kernel
theorem dJ5_append_cf1ce_40 : decode cJ5_append_cf1ce 40 = .ok (.putfield 79, 3) := by decide +kernel
theorem dJ5_append_cf1ce_43 : decode cJ5_append_cf1ce 43 = .ok (.aload_n 0, 1) := by decide +kernel
theorem dJ5_append_cf1ce_44 : decode cJ5_append_cf1ce 44 = .ok (.areturn, 1) := by decide +kernel
set_option maxRecDepth 20000 in
theorem ggJ5_append_cf1ce_J0_length_8abf5 : GoodIn wsJ5_append_cf1ce wsJ0_length_8abf5 := goodIn_r _ [85, 86, 87, 88, 89, 70, 90, 91, 92, 142, 143, 144, 145] (by decide +kernel) (by decide +kernel)
set_option maxRecDepth 20000 in
theorem gJ5_append_cf1ce_J0_length_8abf5 : GoodIn wsJ5_append_cf1ce (wsV RJ5 32 RJ0 yJ0_length_8abf5 wsJ0_length_8abf5) := goodIn_app (goodIn_of _ (by decide +kernel)) ggJ5_append_cf1ce_J0_length_8abf5
set_option maxRecDepth 20000 in
theorem ggJ5_append_cf1ce_J5_ensureCapacityInternal_d00df : GoodIn wsJ5_append_cf1ce wsJ5_ensureCapacityInternal_d00df := goodIn_2 24 (goodIn_r _ [13, 8, 14, 15, 16, 17, 18, 6, 19, 20, 21, 22, 23, 24, 25, 26, 27, 28, 29, 30, 31, 32, 33, 34] (by decide +kernel) (by decide +kernel)) (goodIn_r _ [35, 36, 37, 38, 39, 40, 41, 42, 43, 44, 45, 46, 47, 48, 49, 50, 138, 139, 140, 141] (by decide +kernel) (by decide +kernel))
set_option maxRecDepth 20000 in
theorem gJ5_append_cf1ce_J5_ensureCapacityInternal_d00df_u100J4 : GoodIn wsJ5_append_cf1ce (va_wsU RJ5 100 RJ4 "java/lang/AbstractStringBuilder" ⟨"java/lang/AbstractStringBuilder", "ensureCapacityInternal", "(I)V"⟩ yJ5_ensureCapacityInternal_d00df wsJ5_ensureCapacityInternal_d00df) := goodIn_app (goodIn_of _ (by decide +kernel)) ggJ5_append_cf1ce_J5_ensureCapacityInternal_d00df
set_option maxRecDepth 20000 in
theorem ggJ5_append_cf1ce_J5_putStringAt_47b60 : GoodIn wsJ5_append_cf1ce wsJ5_putStringAt_47b60 := goodIn_2 24 (goodIn_r _ [97, 8, 14, 98, 99, 100, 101, 6, 102, 56, 103, 88, 89, 70, 90, 91, 92, 104, 105, 106, 107, 108, 1, 51] (by decide +kernel) (by decide +kernel)) (goodIn_2 24 (goodIn_r _ [52, 53, 54, 55, 109, 110, 59, 111, 43, 112, 113, 114, 115, 116, 117, 118, 119, 120, 121, 122, 123, 124, 125, 65] (by decide +kernel) (by decide +kernel)) (goodIn_2 24 (goodIn_r _ [66, 67, 126, 127, 128, 72, 129, 130, 75, 131, 77, 78, 79, 61, 80, 81, 132, 133, 134, 135, 86, 136, 48, 49] (by decide +kernel) (by decide +kernel)) (goodIn_r _ [50, 87, 137, 138, 139, 140, 141, 142, 143, 144, 145] (by decide +kernel) (by decide +kernel))))
set_option maxRecDepth 20000 in
theorem gJ5_append_cf1ce_J5_putStringAt_47b60_u208J4 : GoodIn wsJ5_append_cf1ce (va_wsU RJ5 208 RJ4 "java/lang/AbstractStringBuilder" ⟨"java/lang/AbstractStringBuilder", "putStringAt", "(ILjava/lang/String;)V"⟩ yJ5_putStringAt_47b60 wsJ5_putStringAt_47b60) := goodIn_app (goodIn_of _ (by decide +kernel)) ggJ5_append_cf1ce_J5_putStringAt_47b60
theorem k_J5_append_cf1ce_S_f79 : Cond.fieldLink RJ5 79 "java/lang/AbstractStringBuilder" "count" "I" ∈ wsJ5_append_cf1ce := by decide +kernel
theorem i_J5_append_cf1ce_S_J4 : ∀ w ∈ u_ws RJ4 TJ4 4, w ∈ wsJ5_append_cf1ce := by decide +kernel
abbrev rJ5_append_cf1ce_S : Room := { frames := 4, cells := 1, slots := 2400, locals := 105 }
noncomputable def b_J5_append_cf1ce_S_0 (Z : Nat → Nat) (M : gMem) (x0 : Nat) (x1 : Nat) : Option (Option Nat × gMem) :=
  ck (x1 < 94) <| bd (f_J0_length_8abf5 Z M x1) fun r1 M1 => ck (mT M1 x0 = 13) <| bd (f_J5_ensureCapacityInternal_d00df Z M1 x0 (((mI M1 x0 3) + r1))) fun _ M4 => ck (mT M4 x0 = 13) <| bd (f_J5_putStringAt_47b60_S Z M4 x0 ((mI M4 x0 3)) x1) fun _ M6 => ck (mT M6 x0 = 13) <| lw (wI M6 x0 3 (((mI M6 x0 3) + r1))) fun M8 => some ((some x0), M8)
noncomputable def f_J5_append_cf1ce_S (Z : Nat → Nat) (M : gMem) (x0 : Nat) (x1 : Nat) : Option (Option Nat × gMem) :=
  b_J5_append_cf1ce_S_0 Z M x0 x1
set_option maxHeartbeats 4000000 in
set_option maxRecDepth 100000 in
theorem t_J5_append_cf1ce_S_0 (X2 : gX p s m args meth c D cy B (gSt2 Z B H0) RJ5 cJ5_append_cf1ce wsJ5_append_cf1ce 3) (hr : meth.sig.returnType = (some (.object "java/lang/AbstractStringBuilder"))) {Q : State → Prop} : ∀ (M : gMem) (x0 : Nat) (x1 : Nat) (z : Option Nat × gMem), b_J5_append_cf1ce_S_0 Z M x0 x1 = some z → (fun (r : Option Nat × gMem) => Q = gMQ below D cy B H0 args s 1 2400 (some (vR r.1)) r.2) z → gGo p l e rJ5_append_cf1ce_S s m args below meth c D cy B H0 3 0 0 Q 0 [(0, vR (some x0)), (1, vR (some (Z (100 + x1))))] [] M := by
  intro M x0 x1 z hf hK
  unfold b_J5_append_cf1ce_S_0 at hf
  have X := gX_w X2
  refine g_aload_n X dJ5_append_cf1ce_0 rfl rfl ?_
  refine g_ifnonnull (tgt := 9) X dJ5_append_cf1ce_1 (by decide) (fun _ => ?_) (fun hc => absurd hc (by simp))
  refine g_aload_n X dJ5_append_cf1ce_9 rfl rfl ?_
  obtain ⟨hg2, hf⟩ := ck_e hf
  obtain ⟨r1, M1, hq1, hf⟩ := bd_e hf
  refine g_callV0 (C := RJ0) (b := (Z (100 + x1))) (As := []) (st := []) (v := some (vI r1)) (M1 := M1) X (m_J0_length_8abf5 l hq1) (cwV 0 X.2.2.1 gJ5_append_cf1ce_J0_length_8abf5 rfl rfl rfl (by decide +kernel) ⟨Nat.le_of_ble_eq_true rfl, Nat.le_of_ble_eq_true rfl⟩) rfl rfl rfl (fun H hW => gO_recv (gSt_sO X hg2) hW) (Nat.le_of_ble_eq_true rfl) dJ5_append_cf1ce_10 ⟨by decide, by decide⟩ ?_
  refine g_istore_n (lv' := [(2, vI r1), (0, vR (some x0)), (1, vR (some (Z (100 + x1))))]) X dJ5_append_cf1ce_13 rfl (by decide) rfl ?_
  refine g_aload_n X dJ5_append_cf1ce_14 rfl rfl ?_
  refine g_aload_n X dJ5_append_cf1ce_15 rfl rfl ?_
  obtain ⟨hT3, hf⟩ := ck_e hf
  refine g_get (ci := 12) (v := vI (mI M1 x0 3)) 3 X cdJ4 i_J5_append_cf1ce_S_J4 (by decide) k_J5_append_cf1ce_S_f79 rfl dJ5_append_cf1ce_16 rfl hT3 rfl ?_
  refine g_iload_n X dJ5_append_cf1ce_19 rfl rfl ?_
  refine g_iadd X dJ5_append_cf1ce_20 ?_
  obtain ⟨r4, M4, hq4, hf⟩ := bd_e hf
  refine g_callU (C := RJ4) (owner := "java/lang/AbstractStringBuilder") (b := x0) (As := [vI ((mI M1 x0 3) + r1)]) (st := []) (v := none) (M1 := M4) X2 (m_J5_ensureCapacityInternal_d00df l hq4) (va_cwU 1 X.2.2.1 gJ5_append_cf1ce_J5_ensureCapacityInternal_d00df_u100J4 rfl rfl rfl (by decide +kernel) (by decide +kernel) ⟨Nat.le_of_ble_eq_true rfl, Nat.le_of_ble_eq_true rfl⟩) rfl rfl rfl (fun H hW => gW_recv (ci := 12) X hW hT3 (by decide) rfl) (Nat.le_of_ble_eq_true rfl) dJ5_append_cf1ce_21 ⟨by decide, by decide⟩ ?_
  refine g_aload_n X dJ5_append_cf1ce_24 rfl rfl ?_
  refine g_aload_n X dJ5_append_cf1ce_25 rfl rfl ?_
  obtain ⟨hT5, hf⟩ := ck_e hf
  refine g_get (ci := 12) (v := vI (mI M4 x0 3)) 3 X cdJ4 i_J5_append_cf1ce_S_J4 (by decide) k_J5_append_cf1ce_S_f79 rfl dJ5_append_cf1ce_26 rfl hT5 rfl ?_
  refine g_aload_n X dJ5_append_cf1ce_29 rfl rfl ?_
  obtain ⟨r6, M6, hq6, hf⟩ := bd_e hf
  refine g_callU (C := RJ4) (owner := "java/lang/AbstractStringBuilder") (b := x0) (As := [vI (mI M4 x0 3), vR (some (Z (100 + x1)))]) (st := []) (v := none) (M1 := M6) X (m_J5_putStringAt_47b60_S l hq6) (va_cwU 2 X.2.2.1 gJ5_append_cf1ce_J5_putStringAt_47b60_u208J4 rfl rfl rfl (by decide +kernel) (by decide +kernel) ⟨Nat.le_of_ble_eq_true rfl, Nat.le_of_ble_eq_true rfl⟩) rfl rfl rfl (fun H hW => gW_recv (ci := 12) X hW hT5 (by decide) rfl) (Nat.le_of_ble_eq_true rfl) dJ5_append_cf1ce_30 ⟨by decide, by decide⟩ ?_
  refine g_aload_n X dJ5_append_cf1ce_33 rfl rfl ?_
  refine g_dup X dJ5_append_cf1ce_34 rfl ?_
  obtain ⟨hT7, hf⟩ := ck_e hf
  refine g_get (ci := 12) (v := vI (mI M6 x0 3)) 3 X cdJ4 i_J5_append_cf1ce_S_J4 (by decide) k_J5_append_cf1ce_S_f79 rfl dJ5_append_cf1ce_35 rfl hT7 rfl ?_
  refine g_iload_n X dJ5_append_cf1ce_38 rfl rfl ?_
  refine g_iadd X dJ5_append_cf1ce_39 ?_
  refine g_putI (ci := 12) 3 X cdJ4 i_J5_append_cf1ce_S_J4 (by decide) k_J5_append_cf1ce_S_f79 rfl dJ5_append_cf1ce_40 rfl hT7 (Or.inl rfl) rfl rfl rfl ?_
  obtain ⟨M8, hM8, hf⟩ := lw_e hf
  rw [← hM8]
  have hT9 : mT M8 x0 = 13 := by rw [hM8]; exact hT7
  refine g_aload_n X dJ5_append_cf1ce_43 rfl rfl ?_
  cases hf
  refine g_eqQ hK ?_
  exact g_aret X hr (Or.inl ⟨_, rfl⟩) dJ5_append_cf1ce_44
set_option maxHeartbeats 4000000 in
set_option maxRecDepth 100000 in
theorem m_J5_append_cf1ce_S (l : Launch) {D : va_G} {cy : Nat → ClassId} {B : Nat} {H0 : Heap} {Z : Nat → Nat} {M M1 : gMem} {x0 : Nat} {x1 : Nat} {r : Option Nat} (hf : f_J5_append_cf1ce_S Z M x0 x1 = some (r, M1)) : Met l yJ5_append_cf1ce wsJ5_append_cf1ce rJ5_append_cf1ce_S (va_Pc (Value.ref x0 :: List.map gv [vR (some (Z (100 + x1)))]) (gPre D cy B H0 (gSt2 Z B H0) M)) (gQ D cy B H0 (some (vR r)) M1) 1 2400 (gA B) := by
  refine Met.ofW (cc := cJ5_append_cf1ce) (maxL := 3) (ret := (some (.object "java/lang/AbstractStringBuilder"))) (by decide) rfl ?_
  intro p e s m args below meth c s₁ Bd hml hv
  obtain ⟨rfl, hW, hKK, hFs⟩ := hv
  have X2 : gX p s m _ meth c D cy B (gSt2 Z B H0) RJ5 cJ5_append_cf1ce wsJ5_append_cf1ce 3 := ⟨Bd.exec, Bd.bytes, atoms_spec (ws := wsJ5_append_cf1ce) Bd.pre, findClass_of_methodNamed Bd.named, hml, hKK, by rw [hW.1]; exact hW.2.1, Bd.notSynchronized, hFs⟩
  have hr := Bd.returns
  have hl := lv_entry ([.ref x0, .ref (Z (100 + x1))]) (n := 3) (Nat.le_of_ble_eq_true rfl)
  show W p l e rJ5_append_cf1ce_S s m _ below meth c s.heap [] 0 0 _ (entryFrame m ([.ref x0, .ref (Z (100 + x1))] : List Value).toArray 3)
  rw [lg_entry_eq]
  generalize (lg_sl ([.ref x0, .ref (Z (100 + x1))]) ++ List.replicate (3 - (lg_sl ([.ref x0, .ref (Z (100 + x1))])).length) Slot.unset).toArray = ls at hl ⊢
  have hl : lv_has ls 3 (List.map gq [(0, vR (some x0)), (1, vR (some (Z (100 + x1))))]) := hl
  exact t_J5_append_cf1ce_S_0 X2 hr _ _ _ _ hf rfl s.heap [] ls hW va_S.rf (lv_has_sub hl (lvsub_of _ _ [0, 1] rfl))
/-! ## java/lang/AbstractStringBuilder.append(Ljava/lang/String;)Ljava/lang/AbstractStringBuilder; -/
theorem k_J5_append_cf1ce_r_f79 : Cond.fieldLink RJ5 79 "java/lang/AbstractStringBuilder" "count" "I" ∈ wsJ5_append_cf1ce := by decide +kernel
theorem i_J5_append_cf1ce_r_J4 : ∀ w ∈ u_ws RJ4 TJ4 4, w ∈ wsJ5_append_cf1ce := by decide +kernel
abbrev rJ5_append_cf1ce_r : Room := { frames := 4, cells := 1, slots := 2400, locals := 105 }
noncomputable def b_J5_append_cf1ce_r_0 (Z : Nat → Nat) (M : gMem) (x0 : Nat) (x1 : Option Nat) : Option (Option Nat × gMem) :=
  (if x1 = none then none else dr x1 fun a2 => ck (mT M a2 = 12) <| bd (f_J0_length_8abf5_r Z M a2) fun r1 M1 => ck (mT M1 x0 = 13) <| bd (f_J5_ensureCapacityInternal_d00df Z M1 x0 (((mI M1 x0 3) + r1))) fun _ M5 => ck (mT M5 x0 = 13) <| bd (f_J5_putStringAt_47b60_r Z M5 x0 ((mI M5 x0 3)) x1) fun _ M7 => ck (mT M7 x0 = 13) <| lw (wI M7 x0 3 (((mI M7 x0 3) + r1))) fun M9 => some ((some x0), M9))
noncomputable def f_J5_append_cf1ce_r (Z : Nat → Nat) (M : gMem) (x0 : Nat) (x1 : Option Nat) : Option (Option Nat × gMem) :=
  b_J5_append_cf1ce_r_0 Z M x0 x1
set_option maxHeartbeats 4000000 in
set_option maxRecDepth 100000 in
theorem t_J5_append_cf1ce_r_0 (X2 : gX p s m args meth c D cy B (gSt2 Z B H0) RJ5 cJ5_append_cf1ce wsJ5_append_cf1ce 3) (hr : meth.sig.returnType = (some (.object "java/lang/AbstractStringBuilder"))) {Q : State → Prop} : ∀ (M : gMem) (x0 : Nat) (x1 : Option Nat) (z : Option Nat × gMem), b_J5_append_cf1ce_r_0 Z M x0 x1 = some z → (fun (r : Option Nat × gMem) => Q = gMQ below D cy B H0 args s 1 2400 (some (vR r.1)) r.2) z → gGo p l e rJ5_append_cf1ce_r s m args below meth c D cy B H0 3 0 0 Q 0 [(0, vR (some x0)), (1, vR x1)] [] M := by
  intro M x0 x1 z hf hK
  unfold b_J5_append_cf1ce_r_0 at hf
  have X := gX_w X2
  refine g_aload_n X dJ5_append_cf1ce_0 rfl rfl ?_
  refine g_ifnonnull (tgt := 9) X dJ5_append_cf1ce_1 (by decide) (fun hc => ?_) (fun hc => ?_)
  · have hf := ife_f hc hf
    refine g_aload_n X dJ5_append_cf1ce_9 rfl rfl ?_
    obtain ⟨a2, ha2, hf⟩ := dr_e hf
    obtain ⟨hT3, hf⟩ := ck_e hf
    obtain ⟨r1, M1, hq1, hf⟩ := bd_e hf
    refine g_callV (ci := 11) (b := a2) (As := []) (st := []) (v := some (vI r1)) (M1 := M1) X (m_J0_length_8abf5_r l hq1) (cwV 0 X.2.2.1 gJ5_append_cf1ce_J0_length_8abf5 rfl rfl rfl (by decide +kernel) ⟨Nat.le_of_ble_eq_true rfl, Nat.le_of_ble_eq_true rfl⟩) rfl rfl ha2 hT3 (by decide) rfl (Nat.le_of_ble_eq_true rfl) dJ5_append_cf1ce_10 ⟨by decide, by decide⟩ ?_
    refine g_istore_n (lv' := [(2, vI r1), (0, vR (some x0)), (1, vR x1)]) X dJ5_append_cf1ce_13 rfl (by decide) rfl ?_
    refine g_aload_n X dJ5_append_cf1ce_14 rfl rfl ?_
    refine g_aload_n X dJ5_append_cf1ce_15 rfl rfl ?_
    obtain ⟨hT4, hf⟩ := ck_e hf
    refine g_get (ci := 12) (v := vI (mI M1 x0 3)) 3 X cdJ4 i_J5_append_cf1ce_r_J4 (by decide) k_J5_append_cf1ce_r_f79 rfl dJ5_append_cf1ce_16 rfl hT4 rfl ?_
    refine g_iload_n X dJ5_append_cf1ce_19 rfl rfl ?_
    refine g_iadd X dJ5_append_cf1ce_20 ?_
    obtain ⟨r5, M5, hq5, hf⟩ := bd_e hf
    refine g_callU (C := RJ4) (owner := "java/lang/AbstractStringBuilder") (b := x0) (As := [vI ((mI M1 x0 3) + r1)]) (st := []) (v := none) (M1 := M5) X2 (m_J5_ensureCapacityInternal_d00df l hq5) (va_cwU 1 X.2.2.1 gJ5_append_cf1ce_J5_ensureCapacityInternal_d00df_u100J4 rfl rfl rfl (by decide +kernel) (by decide +kernel) ⟨Nat.le_of_ble_eq_true rfl, Nat.le_of_ble_eq_true rfl⟩) rfl rfl rfl (fun H hW => gW_recv (ci := 12) X hW hT4 (by decide) rfl) (Nat.le_of_ble_eq_true rfl) dJ5_append_cf1ce_21 ⟨by decide, by decide⟩ ?_
    refine g_aload_n X dJ5_append_cf1ce_24 rfl rfl ?_
    refine g_aload_n X dJ5_append_cf1ce_25 rfl rfl ?_
    obtain ⟨hT6, hf⟩ := ck_e hf
    refine g_get (ci := 12) (v := vI (mI M5 x0 3)) 3 X cdJ4 i_J5_append_cf1ce_r_J4 (by decide) k_J5_append_cf1ce_r_f79 rfl dJ5_append_cf1ce_26 rfl hT6 rfl ?_
    refine g_aload_n X dJ5_append_cf1ce_29 rfl rfl ?_
    obtain ⟨r7, M7, hq7, hf⟩ := bd_e hf
    refine g_callU (C := RJ4) (owner := "java/lang/AbstractStringBuilder") (b := x0) (As := [vI (mI M5 x0 3), vR x1]) (st := []) (v := none) (M1 := M7) X (m_J5_putStringAt_47b60_r l hq7) (va_cwU 2 X.2.2.1 gJ5_append_cf1ce_J5_putStringAt_47b60_u208J4 rfl rfl rfl (by decide +kernel) (by decide +kernel) ⟨Nat.le_of_ble_eq_true rfl, Nat.le_of_ble_eq_true rfl⟩) rfl rfl rfl (fun H hW => gW_recv (ci := 12) X hW hT6 (by decide) rfl) (Nat.le_of_ble_eq_true rfl) dJ5_append_cf1ce_30 ⟨by decide, by decide⟩ ?_
    refine g_aload_n X dJ5_append_cf1ce_33 rfl rfl ?_
    refine g_dup X dJ5_append_cf1ce_34 rfl ?_
    obtain ⟨hT8, hf⟩ := ck_e hf
    refine g_get (ci := 12) (v := vI (mI M7 x0 3)) 3 X cdJ4 i_J5_append_cf1ce_r_J4 (by decide) k_J5_append_cf1ce_r_f79 rfl dJ5_append_cf1ce_35 rfl hT8 rfl ?_
    refine g_iload_n X dJ5_append_cf1ce_38 rfl rfl ?_
    refine g_iadd X dJ5_append_cf1ce_39 ?_
    refine g_putI (ci := 12) 3 X cdJ4 i_J5_append_cf1ce_r_J4 (by decide) k_J5_append_cf1ce_r_f79 rfl dJ5_append_cf1ce_40 rfl hT8 (Or.inl rfl) rfl rfl rfl ?_
    obtain ⟨M9, hM9, hf⟩ := lw_e hf
    rw [← hM9]
    have hT10 : mT M9 x0 = 13 := by rw [hM9]; exact hT8
    refine g_aload_n X dJ5_append_cf1ce_43 rfl rfl ?_
    cases hf
    refine g_eqQ hK ?_
    exact g_aret X hr (Or.inl ⟨_, rfl⟩) dJ5_append_cf1ce_44
  · have hf := ife_t hc hf
    cases hf
set_option maxHeartbeats 4000000 in
set_option maxRecDepth 100000 in
theorem m_J5_append_cf1ce_r (l : Launch) {D : va_G} {cy : Nat → ClassId} {B : Nat} {H0 : Heap} {Z : Nat → Nat} {M M1 : gMem} {x0 : Nat} {x1 : Option Nat} {r : Option Nat} (hf : f_J5_append_cf1ce_r Z M x0 x1 = some (r, M1)) : Met l yJ5_append_cf1ce wsJ5_append_cf1ce rJ5_append_cf1ce_r (va_Pc (Value.ref x0 :: List.map gv [vR x1]) (gPre D cy B H0 (gSt2 Z B H0) M)) (gQ D cy B H0 (some (vR r)) M1) 1 2400 (gA B) := by
  refine Met.ofW (cc := cJ5_append_cf1ce) (maxL := 3) (ret := (some (.object "java/lang/AbstractStringBuilder"))) (by decide) rfl ?_
  intro p e s m args below meth c s₁ Bd hml hv
  obtain ⟨rfl, hW, hKK, hFs⟩ := hv
  have X2 : gX p s m _ meth c D cy B (gSt2 Z B H0) RJ5 cJ5_append_cf1ce wsJ5_append_cf1ce 3 := ⟨Bd.exec, Bd.bytes, atoms_spec (ws := wsJ5_append_cf1ce) Bd.pre, findClass_of_methodNamed Bd.named, hml, hKK, by rw [hW.1]; exact hW.2.1, Bd.notSynchronized, hFs⟩
  have hr := Bd.returns
  rcases x1 with _ | x1
  · have hl := lv_entry ([.ref x0, .null]) (n := 3) (Nat.le_of_ble_eq_true rfl)
    show W p l e rJ5_append_cf1ce_r s m _ below meth c s.heap [] 0 0 _ (entryFrame m ([.ref x0, .null] : List Value).toArray 3)
    rw [lg_entry_eq]
    generalize (lg_sl ([.ref x0, .null]) ++ List.replicate (3 - (lg_sl ([.ref x0, .null])).length) Slot.unset).toArray = ls at hl ⊢
    have hl : lv_has ls 3 (List.map gq [(0, vR (some x0)), (1, vR none)]) := hl
    exact t_J5_append_cf1ce_r_0 X2 hr _ _ _ _ hf rfl s.heap [] ls hW va_S.rf (lv_has_sub hl (lvsub_of _ _ [0, 1] rfl))
  · have hl := lv_entry ([.ref x0, .ref x1]) (n := 3) (Nat.le_of_ble_eq_true rfl)
    show W p l e rJ5_append_cf1ce_r s m _ below meth c s.heap [] 0 0 _ (entryFrame m ([.ref x0, .ref x1] : List Value).toArray 3)
    rw [lg_entry_eq]
    generalize (lg_sl ([.ref x0, .ref x1]) ++ List.replicate (3 - (lg_sl ([.ref x0, .ref x1])).length) Slot.unset).toArray = ls at hl ⊢
    have hl : lv_has ls 3 (List.map gq [(0, vR (some x0)), (1, vR (some x1))]) := hl
    exact t_J5_append_cf1ce_r_0 X2 hr _ _ _ _ hf rfl s.heap [] ls hW va_S.rf (lv_has_sub hl (lvsub_of _ _ [0, 1] rfl))
end
