section
variable {p : Program} {l : Launch} {e : Env} {s : State} {m : MethodId} {args : Array Value} {below : List Frame} {meth : Method} {c : Code} {D : va_G} {cy : Nat → ClassId} {B : Nat} {H0 : Heap} {Z : Nat → Nat}
/-! ## java/lang/StringBuilder.append(I)Ljava/lang/StringBuilder; -/
theorem dJ4_append_bf812_0 : decode cJ4_append_bf812 0 = .ok (.aload_n 0, 1) := by decide +kernel
theorem dJ4_append_bf812_1 : decode cJ4_append_bf812 1 = .ok (.iload_n 1, 1) := by decide +kernel
theorem dJ4_append_bf812_2 : decode cJ4_append_bf812 2 = .ok (.invokespecial 53, 3) := by decide +kernel
theorem dJ4_append_bf812_5 : decode cJ4_append_bf812 5 = .ok (.pop, 1) := by decide +kernel
theorem dJ4_append_bf812_6 : decode cJ4_append_bf812 6 = .ok (.aload_n 0, 1) := by decide +kernel
theorem dJ4_append_bf812_7 : decode cJ4_append_bf812 7 = .ok (.areturn, 1) := by decide +kernel
set_option maxRecDepth 20000 in
theorem ggJ4_append_bf812_J5_append_c97b9 : GoodIn wsJ4_append_bf812 wsJ5_append_c97b9 := goodIn_2 24 (goodIn_r _ [6, 7, 8, 9, 10, 11, 12, 13, 14, 15, 16, 5, 17, 18, 19, 20, 21, 22, 23, 24, 25, 26, 27, 28] (by decide +kernel) (by decide +kernel)) (goodIn_2 24 (goodIn_r _ [29, 30, 31, 32, 33, 34, 35, 36, 37, 38, 39, 40, 41, 42, 43, 44, 45, 46, 47, 48, 49, 50, 51, 52] (by decide +kernel) (by decide +kernel)) (goodIn_2 24 (goodIn_r _ [53, 54, 55, 56, 57, 58, 59, 60, 61, 62, 63, 64, 65, 66, 67, 68, 69, 70, 71, 72, 73, 74, 75, 76] (by decide +kernel) (by decide +kernel)) (goodIn_r _ [77, 78, 79, 80, 81, 82, 83, 84, 85, 86, 87, 88, 89, 90, 91, 92, 93, 94, 95, 96, 97, 98, 99] (by decide +kernel) (by decide +kernel))))
set_option maxRecDepth 20000 in
theorem gJ4_append_bf812_J5_append_c97b9_s53 : GoodIn wsJ4_append_bf812 (va_wsSU RJ4 53 yJ5_append_c97b9 wsJ5_append_c97b9) := goodIn_app (goodIn_of _ (by decide +kernel)) ggJ4_append_bf812_J5_append_c97b9
abbrev rJ4_append_bf812 : Room := { frames := 5, cells := 1, slots := 2400, locals := 127 }
noncomputable def b_J4_append_bf812_0 (Z : Nat → Nat) (M : gMem) (x0 : Nat) (x1 : Int32) : Option (Option Nat × gMem) :=
  ck (mT M x0 = 13) <| bd (f_J5_append_c97b9 Z M x0 x1) fun r1 M1 => some ((some x0), M1)
noncomputable def f_J4_append_bf812 (Z : Nat → Nat) (M : gMem) (x0 : Nat) (x1 : Int32) : Option (Option Nat × gMem) :=
  b_J4_append_bf812_0 Z M x0 x1
set_option maxHeartbeats 4000000 in
set_option maxRecDepth 100000 in
theorem t_J4_append_bf812_0 (X2 : gX p s m args meth c D cy B (gSt2 Z B H0) RJ4 cJ4_append_bf812 wsJ4_append_bf812 2) (hr : meth.sig.returnType = (some (.object "java/lang/StringBuilder"))) {Q : State → Prop} : ∀ (M : gMem) (x0 : Nat) (x1 : Int32) (z : Option Nat × gMem), b_J4_append_bf812_0 Z M x0 x1 = some z → (fun (r : Option Nat × gMem) => Q = gMQ below D cy B H0 args s 1 2400 (some (vR r.1)) r.2) z → gGo p l e rJ4_append_bf812 s m args below meth c D cy B H0 2 0 0 Q 0 [(0, vR (some x0)), (1, vI x1)] [] M := by
  intro M x0 x1 z hf hK
  unfold b_J4_append_bf812_0 at hf
  have X := gX_w X2
  refine g_aload_n X dJ4_append_bf812_0 rfl rfl ?_
  refine g_iload_n X dJ4_append_bf812_1 rfl rfl ?_
  obtain ⟨hT2, hf⟩ := ck_e hf
  obtain ⟨r1, M1, hq1, hf⟩ := bd_e hf
  refine g_callSU (ci := 12) (b := x0) (As := [vI x1]) (st := []) (v := some (vR r1)) (M1 := M1) X2 (m_J5_append_c97b9 l hq1) (va_cwSU 1 X.2.2.1 gJ4_append_bf812_J5_append_c97b9_s53 rfl rfl rfl (by decide +kernel) ⟨Nat.le_of_ble_eq_true rfl, Nat.le_of_ble_eq_true rfl⟩) rfl rfl rfl hT2 (by decide) rfl (Nat.le_of_ble_eq_true rfl) dJ4_append_bf812_2 ⟨by decide, by decide⟩ ?_
  refine g_pop X dJ4_append_bf812_5 rfl ?_
  refine g_aload_n X dJ4_append_bf812_6 rfl rfl ?_
  cases hf
  refine g_eqQ hK ?_
  exact g_aret X hr (Or.inl ⟨_, rfl⟩) dJ4_append_bf812_7
set_option maxHeartbeats 4000000 in
set_option maxRecDepth 100000 in
theorem m_J4_append_bf812 (l : Launch) {D : va_G} {cy : Nat → ClassId} {B : Nat} {H0 : Heap} {Z : Nat → Nat} {M M1 : gMem} {x0 : Nat} {x1 : Int32} {r : Option Nat} (hf : f_J4_append_bf812 Z M x0 x1 = some (r, M1)) : Met l yJ4_append_bf812 wsJ4_append_bf812 rJ4_append_bf812 (va_Pc (Value.ref x0 :: List.map gv [vI x1]) (gPre D cy B H0 (gSt2 Z B H0) M)) (gQ D cy B H0 (some (vR r)) M1) 1 2400 (gA B) := by
  refine Met.ofW (cc := cJ4_append_bf812) (maxL := 2) (ret := (some (.object "java/lang/StringBuilder"))) (by decide) rfl ?_
  intro p e s m args below meth c s₁ Bd hml hv
  obtain ⟨rfl, hW, hKK, hFs⟩ := hv
  have X2 : gX p s m _ meth c D cy B (gSt2 Z B H0) RJ4 cJ4_append_bf812 wsJ4_append_bf812 2 := ⟨Bd.exec, Bd.bytes, atoms_spec (ws := wsJ4_append_bf812) Bd.pre, findClass_of_methodNamed Bd.named, hml, hKK, by rw [hW.1]; exact hW.2.1, Bd.notSynchronized, hFs⟩
  have hr := Bd.returns
  have hl := lv_entry ([.ref x0, .int x1]) (n := 2) (Nat.le_of_ble_eq_true rfl)
  show W p l e rJ4_append_bf812 s m _ below meth c s.heap [] 0 0 _ (entryFrame m ([.ref x0, .int x1] : List Value).toArray 2)
  rw [lg_entry_eq]
  generalize (lg_sl ([.ref x0, .int x1]) ++ List.replicate (2 - (lg_sl ([.ref x0, .int x1])).length) Slot.unset).toArray = ls at hl ⊢
  have hl : lv_has ls 2 (List.map gq [(0, vR (some x0)), (1, vI x1)]) := hl
  exact t_J4_append_bf812_0 X2 hr _ _ _ _ hf rfl s.heap [] ls hW va_S.rf (lv_has_sub hl (lvsub_of _ _ [0, 1] rfl))
/-! ## java/util/Arrays.checkLength(II)V -/
theorem dJ7_checkLength_df160_0 : decode cJ7_checkLength_df160 0 = .ok (.iload_n 1, 1) := by decide +kernel
theorem dJ7_checkLength_df160_1 : decode cJ7_checkLength_df160 1 = .ok (.iload_n 0, 1) := by decide +kernel
theorem dJ7_checkLength_df160_2 : decode cJ7_checkLength_df160 2 = .ok (.if_icmp .ge 35, 3) := by decide +kernel
theorem dJ7_checkLength_df160_5 : decode cJ7_checkLength_df160 5 = .ok (.new 43, 3) := by decide +kernel
theorem dJ7_checkLength_df160_37 : decode cJ7_checkLength_df160 37 = .ok (.return_, 1) := by decide +kernel
abbrev rJ7_checkLength_df160 : Room := { frames := 0, cells := 0, slots := 0, locals := 0 }
noncomputable def b_J7_checkLength_df160_0 (M : gMem) (x0 : Int32) (x1 : Int32) : Option (Unit × gMem) :=
  (if x0 ≤ x1 then some ((), M) else none)
noncomputable def f_J7_checkLength_df160 (M : gMem) (x0 : Int32) (x1 : Int32) : Option (Unit × gMem) :=
  b_J7_checkLength_df160_0 M x0 x1
set_option maxHeartbeats 4000000 in
set_option maxRecDepth 100000 in
theorem t_J7_checkLength_df160_0 (X : gX p s m args meth c D cy B (gSt Z B H0) RJ7 cJ7_checkLength_df160 wsJ7_checkLength_df160 2) (hr : meth.sig.returnType = none) {Q : State → Prop} : ∀ (M : gMem) (x0 : Int32) (x1 : Int32) (z : Unit × gMem), b_J7_checkLength_df160_0 M x0 x1 = some z → (fun (r : Unit × gMem) => Q = gMQ below D cy B H0 args s 0 0 none r.2) z → gGo p l e rJ7_checkLength_df160 s m args below meth c D cy B H0 2 0 0 Q 0 [(0, vI x0), (1, vI x1)] [] M := by
  intro M x0 x1 z hf hK
  unfold b_J7_checkLength_df160_0 at hf
  refine g_iload_n X dJ7_checkLength_df160_0 rfl rfl ?_
  refine g_iload_n X dJ7_checkLength_df160_1 rfl rfl ?_
  refine g_icmp_ge (tgt := 37) X dJ7_checkLength_df160_2 (by decide) (fun hc => ?_) (fun hc => ?_)
  · have hf := ife_t hc hf
    cases hf
    refine g_eqQ hK ?_
    exact g_vret X hr dJ7_checkLength_df160_37
  · have hf := ife_f hc hf
    cases hf
set_option maxHeartbeats 4000000 in
set_option maxRecDepth 100000 in
theorem m_J7_checkLength_df160 (l : Launch) {D : va_G} {cy : Nat → ClassId} {B : Nat} {H0 : Heap} {Z : Nat → Nat} {M M1 : gMem} {x0 : Int32} {x1 : Int32} {r : Unit} (hf : f_J7_checkLength_df160 M x0 x1 = some (r, M1)) : Met l yJ7_checkLength_df160 wsJ7_checkLength_df160 rJ7_checkLength_df160 (va_Pc (List.map gv [vI x0, vI x1]) (gPre D cy B H0 (gSt Z B H0) M)) (gQ D cy B H0 none M1) 0 0 (gA B) := by
  refine Met.ofW (cc := cJ7_checkLength_df160) (maxL := 2) (ret := none) (by decide) rfl ?_
  intro p e s m args below meth c s₁ Bd hml hv
  obtain ⟨rfl, hW, hKK, hFs⟩ := hv
  have X : gX p s m _ meth c D cy B (gSt Z B H0) RJ7 cJ7_checkLength_df160 wsJ7_checkLength_df160 2 := ⟨Bd.exec, Bd.bytes, atoms_spec (ws := wsJ7_checkLength_df160) Bd.pre, findClass_of_methodNamed Bd.named, hml, hKK, by rw [hW.1]; exact hW.2.1, Bd.notSynchronized, hFs⟩
  have hr := Bd.returns
  have hl := lv_entry ([.int x0, .int x1]) (n := 2) (Nat.le_of_ble_eq_true rfl)
  show W p l e rJ7_checkLength_df160 s m _ below meth c s.heap [] 0 0 _ (entryFrame m ([.int x0, .int x1] : List Value).toArray 2)
  rw [lg_entry_eq]
  generalize (lg_sl ([.int x0, .int x1]) ++ List.replicate (2 - (lg_sl ([.int x0, .int x1])).length) Slot.unset).toArray = ls at hl ⊢
  have hl : lv_has ls 2 (List.map gq [(0, vI x0), (1, vI x1)]) := hl
  exact t_J7_checkLength_df160_0 X hr _ _ _ _ hf rfl s.heap [] ls hW va_S.rf (lv_has_sub hl (lvsub_of _ _ [0, 1] rfl))
/-! ## java/util/Arrays.copyOfRangeByte([BII)[B -/
theorem dJ7_copyOfRangeByte_39247_0 : decode cJ7_copyOfRangeByte_39247 0 = .ok (.iload_n 1, 1) := by decide +kernel
theorem dJ7_copyOfRangeByte_39247_1 : decode cJ7_copyOfRangeByte_39247 1 = .ok (.iload_n 2, 1) := by decide +kernel
theorem dJ7_copyOfRangeByte_39247_2 : decode cJ7_copyOfRangeByte_39247 2 = .ok (.invokestatic 343, 3) := by decide +kernel
theorem dJ7_copyOfRangeByte_39247_5 : decode cJ7_copyOfRangeByte_39247 5 = .ok (.iload_n 2, 1) := by decide +kernel
theorem dJ7_copyOfRangeByte_39247_6 : decode cJ7_copyOfRangeByte_39247 6 = .ok (.iload_n 1, 1) := by decide +kernel
theorem dJ7_copyOfRangeByte_39247_7 : decode cJ7_copyOfRangeByte_39247 7 = .ok (.isub, 1) := by decide +kernel
theorem dJ7_copyOfRangeByte_39247_8 : decode cJ7_copyOfRangeByte_39247 8 = .ok (.istore_n 3, 1) := by decide +kernel
theorem dJ7_copyOfRangeByte_39247_9 : decode cJ7_copyOfRangeByte_39247 9 = .ok (.iload_n 3, 1) := by decide +kernel
theorem dJ7_copyOfRangeByte_39247_10 : decode cJ7_copyOfRangeByte_39247 10 = .ok (.newarray .byte, 2) := by decide +kernel
theorem dJ7_copyOfRangeByte_39247_12 : decode cJ7_copyOfRangeByte_39247 12 = .ok (.astore 4, 2) := by decide +kernel
theorem dJ7_copyOfRangeByte_39247_14 : decode cJ7_copyOfRangeByte_39247 14 = .ok (.aload_n 0, 1) := by decide +kernel
theorem dJ7_copyOfRangeByte_39247_15 : decode cJ7_copyOfRangeByte_39247 15 = .ok (.iload_n 1, 1) := by decide +kernel
theorem dJ7_copyOfRangeByte_39247_16 : decode cJ7_copyOfRangeByte_39247 16 = .ok (.aload 4, 2) := by decide +kernel
theorem dJ7_copyOfRangeByte_39247_18 : decode cJ7_copyOfRangeByte_39247 18 = .ok (.iconst 0, 1) := by decide +kernel
theorem dJ7_copyOfRangeByte_39247_19 : decode cJ7_copyOfRangeByte_39247 19 = .ok (.aload_n 0, 1) := by decide +kernel
theorem dJ7_copyOfRangeByte_39247_20 : decode cJ7_copyOfRangeByte_39247 20 = .ok (.arraylength, 1) := by decide +kernel
theorem dJ7_copyOfRangeByte_39247_21 : decode cJ7_copyOfRangeByte_39247 21 = .ok (.iload_n 1, 1) := by decide +kernel
theorem dJ7_copyOfRangeByte_39247_22 : decode cJ7_copyOfRangeByte_39247 22 = .ok (.isub, 1) := by decide +kernel
theorem dJ7_copyOfRangeByte_39247_23 : decode cJ7_copyOfRangeByte_39247 23 = .ok (.iload_n 3, 1) := by decide +kernel
theorem dJ7_copyOfRangeByte_39247_24 : decode cJ7_copyOfRangeByte_39247 24 = .ok (.invokestatic 304, 3) := by decide +kernel
theorem dJ7_copyOfRangeByte_39247_27 : decode cJ7_copyOfRangeByte_39247 27 = .ok (.invokestatic 150, 3) := by decide +kernel
theorem dJ7_copyOfRangeByte_39247_30 : decode cJ7_copyOfRangeByte_39247 30 = .ok (.aload 4, 2) := by decide +kernel
theorem dJ7_copyOfRangeByte_39247_32 : decode cJ7_copyOfRangeByte_39247 32 = .ok (.areturn, 1) := by decide +kernel
set_option maxRecDepth 20000 in
theorem ggJ7_copyOfRangeByte_39247_J7_checkLength_df160 : GoodIn wsJ7_copyOfRangeByte_39247 wsJ7_checkLength_df160 := goodIn_r _ [13] (by decide +kernel) (by decide +kernel)
set_option maxRecDepth 20000 in
theorem gJ7_copyOfRangeByte_39247_J7_checkLength_df160 : GoodIn wsJ7_copyOfRangeByte_39247 (va_wsS RJ7 343 yJ7_checkLength_df160 wsJ7_checkLength_df160) := goodIn_app (goodIn_of _ (by decide +kernel)) ggJ7_copyOfRangeByte_39247_J7_checkLength_df160
theorem k_J7_copyOfRangeByte_39247_acbyte : Cond.arrayClass .byte ∈ wsJ7_copyOfRangeByte_39247 := by decide +kernel
theorem k_J7_copyOfRangeByte_39247_m304 : Cond.methodLink RJ7 304 Lib.Math.min.name ∈ wsJ7_copyOfRangeByte_39247 := by decide +kernel
theorem k_J7_copyOfRangeByte_39247_mmins : Cond.static Lib.Math.min.name ∈ wsJ7_copyOfRangeByte_39247 := by decide +kernel
theorem k_J7_copyOfRangeByte_39247_mi : Cond.initialized "java/lang/Math" ∈ wsJ7_copyOfRangeByte_39247 := by decide +kernel
theorem k_J7_copyOfRangeByte_39247_mminc : Cond.code Lib.Math.min.name Lib.Math.min.code 2 (some .int) ∈ wsJ7_copyOfRangeByte_39247 := by decide +kernel
theorem k_J7_copyOfRangeByte_39247_ac150 : Cond.methodLink RJ7 150 arraycopyName ∈ wsJ7_copyOfRangeByte_39247 := by decide +kernel
theorem k_J7_copyOfRangeByte_39247_acn : Cond.native arraycopyName ∈ wsJ7_copyOfRangeByte_39247 := by decide +kernel
theorem k_J7_copyOfRangeByte_39247_acs : Cond.static arraycopyName ∈ wsJ7_copyOfRangeByte_39247 := by decide +kernel
theorem k_J7_copyOfRangeByte_39247_aci : Cond.initialized "java/lang/System" ∈ wsJ7_copyOfRangeByte_39247 := by decide +kernel
abbrev rJ7_copyOfRangeByte_39247 : Room := { frames := 1, cells := 1, slots := 2400, locals := 60 }
noncomputable def b_J7_copyOfRangeByte_39247_0 (M : gMem) (x0 : Option Nat) (x1 : Int32) (x2 : Int32) : Option (Option Nat × gMem) :=
  bd (f_J7_checkLength_df160 M x1 x2) fun _ M1 => ck (¬ (x2 - x1) < 0) <| ck (((x2 - x1)).toNatClampNeg ≤ 2400) <| lw (nW M1 22 ((x2 - x1)).toNatClampNeg) fun M4 => dr x0 fun a5 => ck (mT M4 a5 = 22) <| ck (mT M4 (mN M1) = 22) <| ck (¬ x1 < 0) <| ck (¬ (imin (((Int32.ofNat (mL M4 a5)) - x1)) ((x2 - x1))) < 0) <| ck (x1.toNatClampNeg + ((imin (((Int32.ofNat (mL M4 a5)) - x1)) ((x2 - x1)))).toNatClampNeg ≤ mL M4 a5) <| ck (((0 : Int32)).toNatClampNeg + ((imin (((Int32.ofNat (mL M4 a5)) - x1)) ((x2 - x1)))).toNatClampNeg ≤ mL M4 (mN M1)) <| ck (∀ i, i < ((imin (((Int32.ofNat (mL M4 a5)) - x1)) ((x2 - x1)))).toNatClampNeg → i2bV (mI M4 a5 (x1.toNatClampNeg + i)) = mI M4 a5 (x1.toNatClampNeg + i)) <| lw (cpI M4 a5 x1.toNatClampNeg (mN M1) ((0 : Int32)).toNatClampNeg ((imin (((Int32.ofNat (mL M4 a5)) - x1)) ((x2 - x1)))).toNatClampNeg) fun M13 => some ((some (mN M1)), M13)
noncomputable def f_J7_copyOfRangeByte_39247 (M : gMem) (x0 : Option Nat) (x1 : Int32) (x2 : Int32) : Option (Option Nat × gMem) :=
  b_J7_copyOfRangeByte_39247_0 M x0 x1 x2
set_option maxHeartbeats 4000000 in
set_option maxRecDepth 100000 in
theorem t_J7_copyOfRangeByte_39247_0 (X : gX p s m args meth c D cy B (gSt Z B H0) RJ7 cJ7_copyOfRangeByte_39247 wsJ7_copyOfRangeByte_39247 5) (hr : meth.sig.returnType = (some (.array .byte))) {Q : State → Prop} : ∀ (M : gMem) (x0 : Option Nat) (x1 : Int32) (x2 : Int32) (z : Option Nat × gMem), b_J7_copyOfRangeByte_39247_0 M x0 x1 x2 = some z → (fun (r : Option Nat × gMem) => Q = gMQ below D cy B H0 args s 1 2400 (some (vR r.1)) r.2) z → gGo p l e rJ7_copyOfRangeByte_39247 s m args below meth c D cy B H0 5 0 0 Q 0 [(0, vR x0), (1, vI x1), (2, vI x2)] [] M := by
  intro M x0 x1 x2 z hf hK
  unfold b_J7_copyOfRangeByte_39247_0 at hf
  refine g_iload_n X dJ7_copyOfRangeByte_39247_0 rfl rfl ?_
  refine g_iload_n X dJ7_copyOfRangeByte_39247_1 rfl rfl ?_
  obtain ⟨r1, M1, hq1, hf⟩ := bd_e hf
  refine g_callS (As := [vI x1, vI x2]) (st := []) (v := none) (M1 := M1) X (m_J7_checkLength_df160 l hq1) (va_cwS 2 X.2.2.1 gJ7_copyOfRangeByte_39247_J7_checkLength_df160 rfl rfl rfl (by decide +kernel) ⟨Nat.le_of_ble_eq_true rfl, Nat.le_of_ble_eq_true rfl⟩) rfl rfl (Nat.le_of_ble_eq_true rfl) dJ7_copyOfRangeByte_39247_2 ⟨by decide, by decide⟩ ?_
  refine g_iload_n X dJ7_copyOfRangeByte_39247_5 rfl rfl ?_
  refine g_iload_n X dJ7_copyOfRangeByte_39247_6 rfl rfl ?_
  refine g_isub X dJ7_copyOfRangeByte_39247_7 ?_
  refine g_istore_n (lv' := [(3, vI (x2 - x1)), (0, vR x0), (1, vI x1), (2, vI x2)]) X dJ7_copyOfRangeByte_39247_8 rfl (by decide) rfl ?_
  refine g_iload_n X dJ7_copyOfRangeByte_39247_9 rfl rfl ?_
  obtain ⟨hg2, hf⟩ := ck_e hf
  obtain ⟨hg3, hf⟩ := ck_e hf
  refine g_newa (at' := .byte) (t0 := 0) X k_J7_copyOfRangeByte_39247_acbyte (by exact Or.inr (Or.inr (Or.inl ⟨rfl, rfl⟩))) hg2 (by omega) ⟨(by decide), Nat.le_trans (Nat.add_le_add_left hg3 _) (by decide)⟩ dJ7_copyOfRangeByte_39247_10 ?_
  refine g_wide (k' := 1) (n' := 2400) (Nat.le_refl _) (Nat.add_le_add_left hg3 _) ?_
  obtain ⟨M4, hM4, hf⟩ := lw_e hf
  rw [← hM4]
  refine g_astore (lv' := [(4, vR (some (mN M1))), (3, vI (x2 - x1)), (0, vR x0), (1, vI x1), (2, vI x2)]) X dJ7_copyOfRangeByte_39247_12 (by decide) rfl ?_
  refine g_aload_n X dJ7_copyOfRangeByte_39247_14 rfl rfl ?_
  refine g_iload_n X dJ7_copyOfRangeByte_39247_15 rfl rfl ?_
  refine g_aload X dJ7_copyOfRangeByte_39247_16 rfl ?_
  refine g_iconst (v := (0 : Int32)) X dJ7_copyOfRangeByte_39247_18 (by decide) ?_
  refine g_aload_n X dJ7_copyOfRangeByte_39247_19 rfl rfl ?_
  obtain ⟨a5, ha5, hf⟩ := dr_e hf
  obtain ⟨hT6, hf⟩ := ck_e hf
  refine g_alen (t0 := 2) X dJ7_copyOfRangeByte_39247_20 ha5 hT6 (by decide) rfl ?_
  refine g_iload_n X dJ7_copyOfRangeByte_39247_21 rfl rfl ?_
  refine g_isub X dJ7_copyOfRangeByte_39247_22 ?_
  refine g_iload_n X dJ7_copyOfRangeByte_39247_23 rfl rfl ?_
  refine g_min X k_J7_copyOfRangeByte_39247_m304 k_J7_copyOfRangeByte_39247_mmins k_J7_copyOfRangeByte_39247_mi k_J7_copyOfRangeByte_39247_mminc (Nat.le_of_ble_eq_true rfl) (Nat.le_of_ble_eq_true rfl) ⟨by decide, by decide⟩ dJ7_copyOfRangeByte_39247_24 ?_
  obtain ⟨hT7, hf⟩ := ck_e hf
  obtain ⟨hg8, hf⟩ := ck_e hf
  obtain ⟨hg9, hf⟩ := ck_e hf
  obtain ⟨hg10, hf⟩ := ck_e hf
  obtain ⟨hg11, hf⟩ := ck_e hf
  obtain ⟨hg12, hf⟩ := ck_e hf
  refine g_copyB X k_J7_copyOfRangeByte_39247_ac150 k_J7_copyOfRangeByte_39247_acn k_J7_copyOfRangeByte_39247_acs k_J7_copyOfRangeByte_39247_aci ha5 rfl hT6 hT7 hg8 (by decide) hg9 hg10 hg11 hg12 (Nat.le_of_ble_eq_true rfl) (Nat.le_of_ble_eq_true rfl) dJ7_copyOfRangeByte_39247_27 ?_
  obtain ⟨M13, hM13, hf⟩ := lw_e hf
  rw [← hM13]
  have hT14 : mT M13 a5 = 22 := by rw [hM13]; exact hT6
  have hT15 : mT M13 (mN M1) = 22 := by rw [hM13]; exact hT7
  refine g_aload X dJ7_copyOfRangeByte_39247_30 rfl ?_
  cases hf
  refine g_eqQ hK ?_
  exact g_aret X hr (Or.inr ⟨_, rfl⟩) dJ7_copyOfRangeByte_39247_32
set_option maxHeartbeats 4000000 in
set_option maxRecDepth 100000 in
theorem m_J7_copyOfRangeByte_39247 (l : Launch) {D : va_G} {cy : Nat → ClassId} {B : Nat} {H0 : Heap} {Z : Nat → Nat} {M M1 : gMem} {x0 : Option Nat} {x1 : Int32} {x2 : Int32} {r : Option Nat} (hf : f_J7_copyOfRangeByte_39247 M x0 x1 x2 = some (r, M1)) : Met l yJ7_copyOfRangeByte_39247 wsJ7_copyOfRangeByte_39247 rJ7_copyOfRangeByte_39247 (va_Pc (List.map gv [vR x0, vI x1, vI x2]) (gPre D cy B H0 (gSt Z B H0) M)) (gQ D cy B H0 (some (vR r)) M1) 1 2400 (gA B) := by
  refine Met.ofW (cc := cJ7_copyOfRangeByte_39247) (maxL := 5) (ret := (some (.array .byte))) (by decide) rfl ?_
  intro p e s m args below meth c s₁ Bd hml hv
  obtain ⟨rfl, hW, hKK, hFs⟩ := hv
  have X : gX p s m _ meth c D cy B (gSt Z B H0) RJ7 cJ7_copyOfRangeByte_39247 wsJ7_copyOfRangeByte_39247 5 := ⟨Bd.exec, Bd.bytes, atoms_spec (ws := wsJ7_copyOfRangeByte_39247) Bd.pre, findClass_of_methodNamed Bd.named, hml, hKK, by rw [hW.1]; exact hW.2.1, Bd.notSynchronized, hFs⟩
  have hr := Bd.returns
  rcases x0 with _ | x0
  · have hl := lv_entry ([.null, .int x1, .int x2]) (n := 5) (Nat.le_of_ble_eq_true rfl)
    show W p l e rJ7_copyOfRangeByte_39247 s m _ below meth c s.heap [] 0 0 _ (entryFrame m ([.null, .int x1, .int x2] : List Value).toArray 5)
    rw [lg_entry_eq]
    generalize (lg_sl ([.null, .int x1, .int x2]) ++ List.replicate (5 - (lg_sl ([.null, .int x1, .int x2])).length) Slot.unset).toArray = ls at hl ⊢
    have hl : lv_has ls 5 (List.map gq [(0, vR none), (1, vI x1), (2, vI x2)]) := hl
    exact t_J7_copyOfRangeByte_39247_0 X hr _ _ _ _ _ hf rfl s.heap [] ls hW va_S.rf (lv_has_sub hl (lvsub_of _ _ [0, 1, 2] rfl))
  · have hl := lv_entry ([.ref x0, .int x1, .int x2]) (n := 5) (Nat.le_of_ble_eq_true rfl)
    show W p l e rJ7_copyOfRangeByte_39247 s m _ below meth c s.heap [] 0 0 _ (entryFrame m ([.ref x0, .int x1, .int x2] : List Value).toArray 5)
    rw [lg_entry_eq]
    generalize (lg_sl ([.ref x0, .int x1, .int x2]) ++ List.replicate (5 - (lg_sl ([.ref x0, .int x1, .int x2])).length) Slot.unset).toArray = ls at hl ⊢
    have hl : lv_has ls 5 (List.map gq [(0, vR (some x0)), (1, vI x1), (2, vI x2)]) := hl
    exact t_J7_copyOfRangeByte_39247_0 X hr _ _ _ _ _ hf rfl s.heap [] ls hW va_S.rf (lv_has_sub hl (lvsub_of _ _ [0, 1, 2] rfl))
/-! ## java/util/Arrays.copyOfRange([BII)[B -/
theorem dJ7_copyOfRange_39247_0 : decode cJ7_copyOfRange_39247 0 = .ok (.iload_n 1, 1) := by decide +kernel
theorem dJ7_copyOfRange_39247_1 : decode cJ7_copyOfRange_39247 1 = .ok (.ifCond .ne 9, 3) := by decide +kernel
theorem dJ7_copyOfRange_39247_4 : decode cJ7_copyOfRange_39247 4 = .ok (.iload_n 2, 1) := by decide +kernel
theorem dJ7_copyOfRange_39247_5 : decode cJ7_copyOfRange_39247 5 = .ok (.aload_n 0, 1) := by decide +kernel
theorem dJ7_copyOfRange_39247_6 : decode cJ7_copyOfRange_39247 6 = .ok (.arraylength, 1) := by decide +kernel
theorem dJ7_copyOfRange_39247_7 : decode cJ7_copyOfRange_39247 7 = .ok (.if_icmp .eq 10, 3) := by decide +kernel
theorem dJ7_copyOfRange_39247_10 : decode cJ7_copyOfRange_39247 10 = .ok (.aload_n 0, 1) := by decide +kernel
theorem dJ7_copyOfRange_39247_11 : decode cJ7_copyOfRange_39247 11 = .ok (.iload_n 1, 1) := by decide +kernel
theorem dJ7_copyOfRange_39247_12 : decode cJ7_copyOfRange_39247 12 = .ok (.iload_n 2, 1) := by decide +kernel
theorem dJ7_copyOfRange_39247_13 : decode cJ7_copyOfRange_39247 13 = .ok (.invokestatic 339, 3) := by decide +kernel
theorem dJ7_copyOfRange_39247_16 : decode cJ7_copyOfRange_39247 16 = .ok (.areturn, 1) := by decide +kernel
theorem dJ7_copyOfRange_39247_17 : decode cJ7_copyOfRange_39247 17 = .ok (.aload_n 0, 1) := by decide +kernel
theorem dJ7_copyOfRange_39247_18 : decode cJ7_copyOfRange_39247 18 = .ok (.invokevirtual 310, 3) := by decide +kernel
theorem dJ7_copyOfRange_39247_21 : decode cJ7_copyOfRange_39247 21 = .ok (.checkcast 311, 3) := by decide +kernel
theorem dJ7_copyOfRange_39247_24 : decode cJ7_copyOfRange_39247 24 = .ok (.areturn, 1) := by decide +kernel
set_option maxRecDepth 20000 in
theorem ggJ7_copyOfRange_39247_J7_copyOfRangeByte_39247 : GoodIn wsJ7_copyOfRange_39247 wsJ7_copyOfRangeByte_39247 := goodIn_r _ [10, 11, 12, 13, 14, 15, 16, 17, 18, 19, 20, 21, 9, 22] (by decide +kernel) (by decide +kernel)
set_option maxRecDepth 20000 in
theorem gJ7_copyOfRange_39247_J7_copyOfRangeByte_39247 : GoodIn wsJ7_copyOfRange_39247 (va_wsS RJ7 339 yJ7_copyOfRangeByte_39247 wsJ7_copyOfRangeByte_39247) := goodIn_app (goodIn_of _ (by decide +kernel)) ggJ7_copyOfRange_39247_J7_copyOfRangeByte_39247
theorem k_J7_copyOfRange_39247_cn1 : Cond.methodLink RJ7 310 ⟨"[B", "clone", "()Ljava/lang/Object;"⟩ ∈ wsJ7_copyOfRange_39247 := by decide +kernel
theorem k_J7_copyOfRange_39247_cn2 : Cond.sameMethod "[B" "java/lang/Object" "clone" "()Ljava/lang/Object;" ∈ wsJ7_copyOfRange_39247 := by decide +kernel
theorem k_J7_copyOfRange_39247_cn3 : Cond.native ⟨"java/lang/Object", "clone", "()Ljava/lang/Object;"⟩ ∈ wsJ7_copyOfRange_39247 := by decide +kernel
theorem k_J7_copyOfRange_39247_cn4 : Cond.instanceMethod ⟨"java/lang/Object", "clone", "()Ljava/lang/Object;"⟩ ∈ wsJ7_copyOfRange_39247 := by decide +kernel
theorem k_J7_copyOfRange_39247_cn5 : Cond.selects "[B" ⟨"[B", "clone", "()Ljava/lang/Object;"⟩ ⟨"java/lang/Object", "clone", "()Ljava/lang/Object;"⟩ ∈ wsJ7_copyOfRange_39247 := by decide +kernel
theorem k_J7_copyOfRange_39247_cl311 : Cond.classLink RJ7 311 "[B" ∈ wsJ7_copyOfRange_39247 := by decide +kernel
abbrev rJ7_copyOfRange_39247 : Room := { frames := 2, cells := 1, slots := 2400, locals := 84 }
noncomputable def b_J7_copyOfRange_39247_10 (Z : Nat → Nat) (M : gMem) (x0 : Option Nat) (x1 : Int32) (x2 : Int32) : Option (Option Nat × gMem) :=
  bd (f_J7_copyOfRangeByte_39247 M x0 x1 x2) fun r1 M1 => some (r1, M1)
noncomputable def b_J7_copyOfRange_39247_0 (Z : Nat → Nat) (M : gMem) (x0 : Option Nat) (x1 : Int32) (x2 : Int32) : Option (Option Nat × gMem) :=
  (if x1 = 0 then dr x0 fun a2 => ck (mT M a2 = 22) <| (if x2 = (Int32.ofNat (mL M a2)) then ck (mL M a2 ≤ 2400) <| ck (∀ i, i < mL M a2 → i2bV (mI M a2 i) = mI M a2 i) <| lw (clM M a2) fun M6 => ck (mT M6 (mN M) = 22) <| some ((some (mN M)), M6) else b_J7_copyOfRange_39247_10 Z M x0 x1 x2) else b_J7_copyOfRange_39247_10 Z M x0 x1 x2)
noncomputable def f_J7_copyOfRange_39247 (Z : Nat → Nat) (M : gMem) (x0 : Option Nat) (x1 : Int32) (x2 : Int32) : Option (Option Nat × gMem) :=
  b_J7_copyOfRange_39247_0 Z M x0 x1 x2
set_option maxHeartbeats 4000000 in
set_option maxRecDepth 100000 in
theorem t_J7_copyOfRange_39247_10 (X2 : gX p s m args meth c D cy B (gSt2 Z B H0) RJ7 cJ7_copyOfRange_39247 wsJ7_copyOfRange_39247 3) (hr : meth.sig.returnType = (some (.array .byte))) {Q : State → Prop} : ∀ (M : gMem) (x0 : Option Nat) (x1 : Int32) (x2 : Int32) (z : Option Nat × gMem), b_J7_copyOfRange_39247_10 Z M x0 x1 x2 = some z → (fun (r : Option Nat × gMem) => Q = gMQ below D cy B H0 args s 1 2400 (some (vR r.1)) r.2) z → gGo p l e rJ7_copyOfRange_39247 s m args below meth c D cy B H0 3 0 0 Q 10 [(0, vR x0), (1, vI x1), (2, vI x2)] [] M := by
  intro M x0 x1 x2 z hf hK
  unfold b_J7_copyOfRange_39247_10 at hf
  have X := gX_w X2
  refine g_aload_n X dJ7_copyOfRange_39247_10 rfl rfl ?_
  refine g_iload_n X dJ7_copyOfRange_39247_11 rfl rfl ?_
  refine g_iload_n X dJ7_copyOfRange_39247_12 rfl rfl ?_
  obtain ⟨r1, M1, hq1, hf⟩ := bd_e hf
  refine g_callS (As := [vR x0, vI x1, vI x2]) (st := []) (v := some (vR r1)) (M1 := M1) X (m_J7_copyOfRangeByte_39247 l hq1) (va_cwS 3 X.2.2.1 gJ7_copyOfRange_39247_J7_copyOfRangeByte_39247 rfl rfl rfl (by decide +kernel) ⟨Nat.le_of_ble_eq_true rfl, Nat.le_of_ble_eq_true rfl⟩) rfl rfl (Nat.le_of_ble_eq_true rfl) dJ7_copyOfRange_39247_13 ⟨by decide, by decide⟩ ?_
  cases hf
  refine g_eqQ hK ?_
  exact g_aret X hr (Or.inr ⟨_, rfl⟩) dJ7_copyOfRange_39247_16
set_option maxHeartbeats 4000000 in
set_option maxRecDepth 100000 in
theorem t_J7_copyOfRange_39247_0 (X2 : gX p s m args meth c D cy B (gSt2 Z B H0) RJ7 cJ7_copyOfRange_39247 wsJ7_copyOfRange_39247 3) (hr : meth.sig.returnType = (some (.array .byte))) {Q : State → Prop} : ∀ (M : gMem) (x0 : Option Nat) (x1 : Int32) (x2 : Int32) (z : Option Nat × gMem), b_J7_copyOfRange_39247_0 Z M x0 x1 x2 = some z → (fun (r : Option Nat × gMem) => Q = gMQ below D cy B H0 args s 1 2400 (some (vR r.1)) r.2) z → gGo p l e rJ7_copyOfRange_39247 s m args below meth c D cy B H0 3 0 0 Q 0 [(0, vR x0), (1, vI x1), (2, vI x2)] [] M := by
  intro M x0 x1 x2 z hf hK
  unfold b_J7_copyOfRange_39247_0 at hf
  have X := gX_w X2
  refine g_iload_n X dJ7_copyOfRange_39247_0 rfl rfl ?_
  refine g_if_ne (tgt := 10) X dJ7_copyOfRange_39247_1 (by decide) (fun hc => ?_) (fun hc => ?_)
  · have hf := ife_f hc hf
    refine g_sub (lvsub_of _ _ [0, 1, 2] rfl) ?_
    exact t_J7_copyOfRange_39247_10 X2 hr _ _ _ _ _ hf hK
  · have hf := ife_t hc hf
    refine g_iload_n X dJ7_copyOfRange_39247_4 rfl rfl ?_
    refine g_aload_n X dJ7_copyOfRange_39247_5 rfl rfl ?_
    obtain ⟨a2, ha2, hf⟩ := dr_e hf
    obtain ⟨hT3, hf⟩ := ck_e hf
    refine g_alen (t0 := 2) X dJ7_copyOfRange_39247_6 ha2 hT3 (by decide) rfl ?_
    refine g_icmp_eq (tgt := 17) X dJ7_copyOfRange_39247_7 (by decide) (fun hc => ?_) (fun hc => ?_)
    · have hf := ife_t hc hf
      refine g_aload_n X dJ7_copyOfRange_39247_17 rfl rfl ?_
      obtain ⟨hg4, hf⟩ := ck_e hf
      obtain ⟨hg5, hf⟩ := ck_e hf
      refine g_clone X k_J7_copyOfRange_39247_cn1 k_J7_copyOfRange_39247_cn2 k_J7_copyOfRange_39247_cn3 k_J7_copyOfRange_39247_cn4 k_J7_copyOfRange_39247_cn5 (gN2w X2 _ (by decide +kernel)) ha2 hT3 hg5 (Nat.le_of_ble_eq_true rfl) (Nat.le_of_ble_eq_true rfl) ⟨(by decide), Nat.le_trans (Nat.add_le_add_left hg4 _) (by decide)⟩ dJ7_copyOfRange_39247_18 ?_
      refine g_wide (k' := 1) (n' := 2400) (Nat.le_refl _) (Nat.add_le_add_left hg4 _) ?_
      obtain ⟨M6, hM6, hf⟩ := lw_e hf
      rw [← hM6]
      obtain ⟨hT7, hf⟩ := ck_e hf
      refine g_castB X k_J7_copyOfRange_39247_cl311 dJ7_copyOfRange_39247_21 rfl hT7 ?_
      cases hf
      refine g_eqQ hK ?_
      exact g_aret X hr (Or.inr ⟨_, rfl⟩) dJ7_copyOfRange_39247_24
    · have hf := ife_f hc hf
      refine g_sub (lvsub_of _ _ [0, 1, 2] rfl) ?_
      exact t_J7_copyOfRange_39247_10 X2 hr _ _ _ _ _ hf hK
set_option maxHeartbeats 4000000 in
set_option maxRecDepth 100000 in
theorem m_J7_copyOfRange_39247 (l : Launch) {D : va_G} {cy : Nat → ClassId} {B : Nat} {H0 : Heap} {Z : Nat → Nat} {M M1 : gMem} {x0 : Option Nat} {x1 : Int32} {x2 : Int32} {r : Option Nat} (hf : f_J7_copyOfRange_39247 Z M x0 x1 x2 = some (r, M1)) : Met l yJ7_copyOfRange_39247 wsJ7_copyOfRange_39247 rJ7_copyOfRange_39247 (va_Pc (List.map gv [vR x0, vI x1, vI x2]) (gPre D cy B H0 (gSt2 Z B H0) M)) (gQ D cy B H0 (some (vR r)) M1) 1 2400 (gA B) := by
  refine Met.ofW (cc := cJ7_copyOfRange_39247) (maxL := 3) (ret := (some (.array .byte))) (by decide) rfl ?_
  intro p e s m args below meth c s₁ Bd hml hv
  obtain ⟨rfl, hW, hKK, hFs⟩ := hv
  have X2 : gX p s m _ meth c D cy B (gSt2 Z B H0) RJ7 cJ7_copyOfRange_39247 wsJ7_copyOfRange_39247 3 := ⟨Bd.exec, Bd.bytes, atoms_spec (ws := wsJ7_copyOfRange_39247) Bd.pre, findClass_of_methodNamed Bd.named, hml, hKK, by rw [hW.1]; exact hW.2.1, Bd.notSynchronized, hFs⟩
  have hr := Bd.returns
  rcases x0 with _ | x0
  · have hl := lv_entry ([.null, .int x1, .int x2]) (n := 3) (Nat.le_of_ble_eq_true rfl)
    show W p l e rJ7_copyOfRange_39247 s m _ below meth c s.heap [] 0 0 _ (entryFrame m ([.null, .int x1, .int x2] : List Value).toArray 3)
    rw [lg_entry_eq]
    generalize (lg_sl ([.null, .int x1, .int x2]) ++ List.replicate (3 - (lg_sl ([.null, .int x1, .int x2])).length) Slot.unset).toArray = ls at hl ⊢
    have hl : lv_has ls 3 (List.map gq [(0, vR none), (1, vI x1), (2, vI x2)]) := hl
    exact t_J7_copyOfRange_39247_0 X2 hr _ _ _ _ _ hf rfl s.heap [] ls hW va_S.rf (lv_has_sub hl (lvsub_of _ _ [0, 1, 2] rfl))
  · have hl := lv_entry ([.ref x0, .int x1, .int x2]) (n := 3) (Nat.le_of_ble_eq_true rfl)
    show W p l e rJ7_copyOfRange_39247 s m _ below meth c s.heap [] 0 0 _ (entryFrame m ([.ref x0, .int x1, .int x2] : List Value).toArray 3)
    rw [lg_entry_eq]
    generalize (lg_sl ([.ref x0, .int x1, .int x2]) ++ List.replicate (3 - (lg_sl ([.ref x0, .int x1, .int x2])).length) Slot.unset).toArray = ls at hl ⊢
    have hl : lv_has ls 3 (List.map gq [(0, vR (some x0)), (1, vI x1), (2, vI x2)]) := hl
    exact t_J7_copyOfRange_39247_0 X2 hr _ _ _ _ _ hf rfl s.heap [] ls hW va_S.rf (lv_has_sub hl (lvsub_of _ _ [0, 1, 2] rfl))
/-! ## java/lang/StringBuilder.length()I -/
theorem dJ4_length_8abf5_0 : decode cJ4_length_8abf5 0 = .ok (.aload_n 0, 1) := by decide +kernel
theorem dJ4_length_8abf5_1 : decode cJ4_length_8abf5 1 = .ok (.invokespecial 343, 3) := by decide +kernel
theorem dJ4_length_8abf5_4 : decode cJ4_length_8abf5 4 = .ok (.ireturn, 1) := by decide +kernel
set_option maxRecDepth 20000 in
theorem ggJ4_length_8abf5_J5_length_8abf5 : GoodIn wsJ4_length_8abf5 wsJ5_length_8abf5 := goodIn_r _ [6, 7, 8, 9, 10, 11] (by decide +kernel) (by decide +kernel)
set_option maxRecDepth 20000 in
theorem gJ4_length_8abf5_J5_length_8abf5_s343 : GoodIn wsJ4_length_8abf5 (va_wsSU RJ4 343 yJ5_length_8abf5 wsJ5_length_8abf5) := goodIn_app (goodIn_of _ (by decide +kernel)) ggJ4_length_8abf5_J5_length_8abf5
abbrev rJ4_length_8abf5 : Room := { frames := 1, cells := 0, slots := 0, locals := 20 }
noncomputable def b_J4_length_8abf5_0 (M : gMem) (x0 : Nat) : Option (Int32 × gMem) :=
  ck (mT M x0 = 13) <| bd (f_J5_length_8abf5 M x0) fun r1 M1 => some (r1, M1)
noncomputable def f_J4_length_8abf5 (M : gMem) (x0 : Nat) : Option (Int32 × gMem) :=
  b_J4_length_8abf5_0 M x0
set_option maxHeartbeats 4000000 in
set_option maxRecDepth 100000 in
theorem t_J4_length_8abf5_0 (X : gX p s m args meth c D cy B (gSt Z B H0) RJ4 cJ4_length_8abf5 wsJ4_length_8abf5 1) (hr : meth.sig.returnType = (some .int)) {Q : State → Prop} : ∀ (M : gMem) (x0 : Nat) (z : Int32 × gMem), b_J4_length_8abf5_0 M x0 = some z → (fun (r : Int32 × gMem) => Q = gMQ below D cy B H0 args s 0 0 (some (vI r.1)) r.2) z → gGo p l e rJ4_length_8abf5 s m args below meth c D cy B H0 1 0 0 Q 0 [(0, vR (some x0))] [] M := by
  intro M x0 z hf hK
  unfold b_J4_length_8abf5_0 at hf
  refine g_aload_n X dJ4_length_8abf5_0 rfl rfl ?_
  obtain ⟨hT2, hf⟩ := ck_e hf
  obtain ⟨r1, M1, hq1, hf⟩ := bd_e hf
  refine g_callSU (ci := 12) (b := x0) (As := []) (st := []) (v := some (vI r1)) (M1 := M1) X (m_J5_length_8abf5 l hq1) (va_cwSU 0 X.2.2.1 gJ4_length_8abf5_J5_length_8abf5_s343 rfl rfl rfl (by decide +kernel) ⟨Nat.le_of_ble_eq_true rfl, Nat.le_of_ble_eq_true rfl⟩) rfl rfl rfl hT2 (by decide) rfl (Nat.le_of_ble_eq_true rfl) dJ4_length_8abf5_1 ⟨by decide, by decide⟩ ?_
  cases hf
  refine g_eqQ hK ?_
  exact g_iret X hr dJ4_length_8abf5_4
set_option maxHeartbeats 4000000 in
set_option maxRecDepth 100000 in
theorem m_J4_length_8abf5 (l : Launch) {D : va_G} {cy : Nat → ClassId} {B : Nat} {H0 : Heap} {Z : Nat → Nat} {M M1 : gMem} {x0 : Nat} {r : Int32} (hf : f_J4_length_8abf5 M x0 = some (r, M1)) : Met l yJ4_length_8abf5 wsJ4_length_8abf5 rJ4_length_8abf5 (va_Pc (Value.ref x0 :: List.map gv []) (gPre D cy B H0 (gSt Z B H0) M)) (gQ D cy B H0 (some (vI r)) M1) 0 0 (gA B) := by
  refine Met.ofW (cc := cJ4_length_8abf5) (maxL := 1) (ret := (some .int)) (by decide) rfl ?_
  intro p e s m args below meth c s₁ Bd hml hv
  obtain ⟨rfl, hW, hKK, hFs⟩ := hv
  have X : gX p s m _ meth c D cy B (gSt Z B H0) RJ4 cJ4_length_8abf5 wsJ4_length_8abf5 1 := ⟨Bd.exec, Bd.bytes, atoms_spec (ws := wsJ4_length_8abf5) Bd.pre, findClass_of_methodNamed Bd.named, hml, hKK, by rw [hW.1]; exact hW.2.1, Bd.notSynchronized, hFs⟩
  have hr := Bd.returns
  have hl := lv_entry ([.ref x0]) (n := 1) (Nat.le_of_ble_eq_true rfl)
  show W p l e rJ4_length_8abf5 s m _ below meth c s.heap [] 0 0 _ (entryFrame m ([.ref x0] : List Value).toArray 1)
  rw [lg_entry_eq]
  generalize (lg_sl ([.ref x0]) ++ List.replicate (1 - (lg_sl ([.ref x0])).length) Slot.unset).toArray = ls at hl ⊢
  have hl : lv_has ls 1 (List.map gq [(0, vR (some x0))]) := hl
  exact t_J4_length_8abf5_0 X hr _ _ _ hf rfl s.heap [] ls hW va_S.rf (lv_has_sub hl (lvsub_of _ _ [0] rfl))
/-! ## java/lang/String.<init>(Ljava/lang/AbstractStringBuilder;Ljava/lang/Void;)V -/
theorem dJ0_init_db425_0 : decode cJ0_init_db425 0 = .ok (.aload_n 0, 1) := by decide +kernel
theorem dJ0_init_db425_1 : decode cJ0_init_db425 1 = .ok (.invokespecial 1, 3) := by decide +kernel
theorem dJ0_init_db425_4 : decode cJ0_init_db425 4 = .ok (.aload_n 1, 1) := by decide +kernel
theorem dJ0_init_db425_5 : decode cJ0_init_db425 5 = .ok (.invokevirtual 552, 3) := by decide +kernel
theorem dJ0_init_db425_8 : decode cJ0_init_db425 8 = .ok (.astore_n 3, 1) := by decide +kernel
theorem dJ0_init_db425_9 : decode cJ0_init_db425 9 = .ok (.aload_n 1, 1) := by decide +kernel
theorem dJ0_init_db425_10 : decode cJ0_init_db425 10 = .ok (.invokevirtual 549, 3) := by decide +kernel
theorem dJ0_init_db425_13 : decode cJ0_init_db425 13 = .ok (.istore 4, 2) := by decide +kernel
theorem dJ0_init_db425_15 : decode cJ0_init_db425 15 = .ok (.aload_n 1, 1) := by decide +kernel
theorem dJ0_init_db425_16 : decode cJ0_init_db425 16 = .ok (.invokevirtual 1047, 3) := by decide +kernel
theorem dJ0_init_db425_19 : decode cJ0_init_db425 19 = .ok (.ifCond .eq 22, 3) := by decide +kernel
theorem dJ0_init_db425_22 : decode cJ0_init_db425 22 = .ok (.aload_n 0, 1) := by decide +kernel
theorem dJ0_init_db425_23 : decode cJ0_init_db425 23 = .ok (.iconst 0, 1) := by decide +kernel
theorem dJ0_init_db425_24 : decode cJ0_init_db425 24 = .ok (.putfield 15, 3) := by decide +kernel
theorem dJ0_init_db425_27 : decode cJ0_init_db425 27 = .ok (.aload_n 0, 1) := by decide +kernel
theorem dJ0_init_db425_28 : decode cJ0_init_db425 28 = .ok (.aload_n 3, 1) := by decide +kernel
theorem dJ0_init_db425_29 : decode cJ0_init_db425 29 = .ok (.iconst 0, 1) := by decide +kernel
theorem dJ0_init_db425_30 : decode cJ0_init_db425 30 = .ok (.iload 4, 2) := by decide +kernel
theorem dJ0_init_db425_32 : decode cJ0_init_db425 32 = .ok (.invokestatic 54, 3) := by decide +kernel
theorem dJ0_init_db425_35 : decode cJ0_init_db425 35 = .ok (.putfield 9, 3) := by decide +kernel
theorem dJ0_init_db425_38 : decode cJ0_init_db425 38 = .ok (.goto 59, 3) := by decide +kernel
theorem dJ0_init_db425_41 : decode cJ0_init_db425 41 = .ok (.getstatic 38, 3) := by decide +kernel
theorem dJ0_init_db425_97 : decode cJ0_init_db425 97 = .ok (.return_, 1) := by decide +kernel
set_option maxRecDepth 20000 in
theorem ggJ0_init_db425_J5_getValue_6d5f1 : GoodIn wsJ0_init_db425 wsJ5_getValue_6d5f1 := goodIn_r _ [13, 14, 99, 100, 101, 102] (by decide +kernel) (by decide +kernel)
set_option maxRecDepth 20000 in
theorem gJ0_init_db425_J5_getValue_6d5f1_u552J4 : GoodIn wsJ0_init_db425 (va_wsU RJ0 552 RJ4 "java/lang/AbstractStringBuilder" ⟨"java/lang/AbstractStringBuilder", "getValue", "()[B"⟩ yJ5_getValue_6d5f1 wsJ5_getValue_6d5f1) := goodIn_app (goodIn_of _ (by decide +kernel)) ggJ0_init_db425_J5_getValue_6d5f1
set_option maxRecDepth 20000 in
theorem ggJ0_init_db425_J4_length_8abf5 : GoodIn wsJ0_init_db425 wsJ4_length_8abf5 := goodIn_r _ [21, 22, 16, 23, 24, 12, 25, 26, 99, 100, 101, 102] (by decide +kernel) (by decide +kernel)
set_option maxRecDepth 20000 in
theorem gJ0_init_db425_J4_length_8abf5_u549J4 : GoodIn wsJ0_init_db425 (va_wsO RJ0 549 RJ4 "java/lang/AbstractStringBuilder" ⟨"java/lang/AbstractStringBuilder", "length", "()I"⟩ yJ4_length_8abf5 wsJ4_length_8abf5) := goodIn_app (goodIn_of _ (by decide +kernel)) ggJ0_init_db425_J4_length_8abf5
set_option maxRecDepth 20000 in
theorem ggJ0_init_db425_J5_isLatin1_aae02 : GoodIn wsJ0_init_db425 wsJ5_isLatin1_aae02 := goodIn_r _ [31, 32, 33, 99, 100, 101, 102] (by decide +kernel) (by decide +kernel)
set_option maxRecDepth 20000 in
theorem gJ0_init_db425_J5_isLatin1_aae02_u1047J4 : GoodIn wsJ0_init_db425 (va_wsU RJ0 1047 RJ4 "java/lang/AbstractStringBuilder" ⟨"java/lang/AbstractStringBuilder", "isLatin1", "()Z"⟩ yJ5_isLatin1_aae02 wsJ5_isLatin1_aae02) := goodIn_app (goodIn_of _ (by decide +kernel)) ggJ0_init_db425_J5_isLatin1_aae02
set_option maxRecDepth 20000 in
theorem ggJ0_init_db425_J7_copyOfRange_39247 : GoodIn wsJ0_init_db425 wsJ7_copyOfRange_39247 := goodIn_r _ [37, 38, 39, 40, 41, 42, 43, 44, 45, 36, 46, 47, 48, 49, 50, 51, 52, 53, 54, 55, 56, 57, 58] (by decide +kernel) (by decide +kernel)
set_option maxRecDepth 20000 in
theorem gJ0_init_db425_J7_copyOfRange_39247 : GoodIn wsJ0_init_db425 (va_wsS RJ0 54 yJ7_copyOfRange_39247 wsJ7_copyOfRange_39247) := goodIn_app (goodIn_of _ (by decide +kernel)) ggJ0_init_db425_J7_copyOfRange_39247
theorem k_J0_init_db425_oi1 : Cond.methodLink RJ0 1 objectInit ∈ wsJ0_init_db425 := by decide +kernel
theorem k_J0_init_db425_oi2 : Cond.instanceMethod objectInit ∈ wsJ0_init_db425 := by decide +kernel
theorem k_J0_init_db425_oi3 : Cond.code objectInit ⟨#[0xb1]⟩ 1 none ∈ wsJ0_init_db425 := by decide +kernel
theorem k_J0_init_db425_ov549 : Cond.code ⟨"java/lang/AbstractStringBuilder", "length", "()I"⟩ cJ5_length_8abf5 1 (some .int) ∈ wsJ0_init_db425 := by decide +kernel
theorem k_J0_init_db425_f15 : Cond.fieldLink RJ0 15 "java/lang/String" "coder" "B" ∈ wsJ0_init_db425 := by decide +kernel
theorem i_J0_init_db425_J0 : ∀ w ∈ u_ws RJ0 TJ0 4, w ∈ wsJ0_init_db425 := by decide +kernel
theorem k_J0_init_db425_f9 : Cond.fieldLink RJ0 9 "java/lang/String" "value" "[B" ∈ wsJ0_init_db425 := by decide +kernel
abbrev rJ0_init_db425 : Room := { frames := 3, cells := 1, slots := 2400, locals := 106 }
noncomputable def b_J0_init_db425_0 (Z : Nat → Nat) (M : gMem) (x0 : Nat) (x1 : Option Nat) : Option (Unit × gMem) :=
  dr x1 fun a2 => ck (mT M a2 = 13) <| bd (f_J5_getValue_6d5f1 M a2) fun r1 M1 => ck (mT M1 a2 = 13) <| bd (f_J4_length_8abf5 M1 a2) fun r4 M4 => ck (mT M4 a2 = 13) <| bd (f_J5_isLatin1_aae02 Z M4 a2) fun r6 M6 => (if r6 = 0 then none else ck (mT M6 x0 = 12) <| lw (wI M6 x0 1 ((0 : Int32))) fun M9 => bd (f_J7_copyOfRange_39247 Z M9 r1 ((0 : Int32)) r4) fun r11 M11 => ck (mT M11 x0 = 12) <| lw (wR M11 x0 0 r11) fun M13 => some ((), M13))
noncomputable def f_J0_init_db425 (Z : Nat → Nat) (M : gMem) (x0 : Nat) (x1 : Option Nat) (x2 : Option Nat) : Option (Unit × gMem) :=
  b_J0_init_db425_0 Z M x0 x1
set_option maxHeartbeats 4000000 in
set_option maxRecDepth 100000 in
theorem t_J0_init_db425_0 (X2 : gX p s m args meth c D cy B (gSt2 Z B H0) RJ0 cJ0_init_db425 wsJ0_init_db425 5) (hr : meth.sig.returnType = none) (hin : meth.name = "<init>") {Q : State → Prop} : ∀ (M : gMem) (x0 : Nat) (x1 : Option Nat) (z : Unit × gMem), b_J0_init_db425_0 Z M x0 x1 = some z → (fun (r : Unit × gMem) => Q = gMQ below D cy B H0 args s 1 2400 none r.2) z → gGo p l e rJ0_init_db425 s m args below meth c D cy B H0 5 0 0 Q 0 [(0, vR (some x0)), (1, vR x1)] [] M := by
  intro M x0 x1 z hf hK
  unfold b_J0_init_db425_0 at hf
  have X := gX_w X2
  refine g_aload_n X dJ0_init_db425_0 rfl rfl ?_
  refine g_objInit (i9 := 0) (b := x0) X k_J0_init_db425_oi1 k_J0_init_db425_oi2 k_J0_init_db425_oi3 rfl dJ0_init_db425_1 (Nat.le_of_ble_eq_true rfl) (Nat.le_of_ble_eq_true rfl) ?_
  refine g_aload_n X dJ0_init_db425_4 rfl rfl ?_
  obtain ⟨a2, ha2, hf⟩ := dr_e hf
  obtain ⟨hT3, hf⟩ := ck_e hf
  obtain ⟨r1, M1, hq1, hf⟩ := bd_e hf
  refine g_callU (C := RJ4) (owner := "java/lang/AbstractStringBuilder") (b := a2) (As := []) (st := []) (v := some (vR r1)) (M1 := M1) X (m_J5_getValue_6d5f1 l hq1) (va_cwU 0 X.2.2.1 gJ0_init_db425_J5_getValue_6d5f1_u552J4 rfl rfl rfl (by decide +kernel) (by decide +kernel) ⟨Nat.le_of_ble_eq_true rfl, Nat.le_of_ble_eq_true rfl⟩) rfl rfl ha2 (fun H hW => gW_recv (ci := 12) X hW hT3 (by decide) rfl) (Nat.le_of_ble_eq_true rfl) dJ0_init_db425_5 ⟨by decide, by decide⟩ ?_
  refine g_astore_n (lv' := [(3, vR r1), (0, vR (some x0)), (1, vR x1)]) X dJ0_init_db425_8 rfl (by decide) rfl ?_
  refine g_aload_n X dJ0_init_db425_9 rfl rfl ?_
  obtain ⟨hT5, hf⟩ := ck_e hf
  obtain ⟨r4, M4, hq4, hf⟩ := bd_e hf
  refine g_callU (C := RJ4) (owner := "java/lang/AbstractStringBuilder") (b := a2) (As := []) (st := []) (v := some (vI r4)) (M1 := M4) X (m_J4_length_8abf5 l hq4) (va_cwO 0 X.2.2.1 gJ0_init_db425_J4_length_8abf5_u549J4 rfl rfl rfl k_J0_init_db425_ov549 (by decide +kernel) ⟨Nat.le_of_ble_eq_true rfl, Nat.le_of_ble_eq_true rfl⟩) rfl rfl ha2 (fun H hW => gW_recv (ci := 12) X hW hT5 (by decide) rfl) (Nat.le_of_ble_eq_true rfl) dJ0_init_db425_10 ⟨by decide, by decide⟩ ?_
  refine g_istore (lv' := [(4, vI r4), (3, vR r1), (0, vR (some x0)), (1, vR x1)]) X dJ0_init_db425_13 (by decide) rfl ?_
  refine g_aload_n X dJ0_init_db425_15 rfl rfl ?_
  obtain ⟨hT7, hf⟩ := ck_e hf
  obtain ⟨r6, M6, hq6, hf⟩ := bd_e hf
  refine g_callU (C := RJ4) (owner := "java/lang/AbstractStringBuilder") (b := a2) (As := []) (st := []) (v := some (vI r6)) (M1 := M6) X (m_J5_isLatin1_aae02 l hq6) (va_cwU 0 X.2.2.1 gJ0_init_db425_J5_isLatin1_aae02_u1047J4 rfl rfl rfl (by decide +kernel) (by decide +kernel) ⟨Nat.le_of_ble_eq_true rfl, Nat.le_of_ble_eq_true rfl⟩) rfl rfl ha2 (fun H hW => gW_recv (ci := 12) X hW hT7 (by decide) rfl) (Nat.le_of_ble_eq_true rfl) dJ0_init_db425_16 ⟨by decide, by decide⟩ ?_
  refine g_if_eq (tgt := 41) X dJ0_init_db425_19 (by decide) (fun hc => ?_) (fun hc => ?_)
  · have hf := ife_t hc hf
    cases hf
  · have hf := ife_f hc hf
    refine g_aload_n X dJ0_init_db425_22 rfl rfl ?_
    refine g_iconst (v := (0 : Int32)) X dJ0_init_db425_23 (by decide) ?_
    obtain ⟨hT8, hf⟩ := ck_e hf
    refine g_putI (ci := 11) 1 X cdJ0 i_J0_init_db425_J0 (by decide) k_J0_init_db425_f15 rfl dJ0_init_db425_24 rfl hT8 (Or.inr ⟨rfl, hin, rfl⟩) rfl rfl rfl ?_
    obtain ⟨M9, hM9, hf⟩ := lw_e hf
    rw [← hM9]
    have hT10 : mT M9 x0 = 12 := by rw [hM9]; exact hT8
    refine g_aload_n X dJ0_init_db425_27 rfl rfl ?_
    refine g_aload_n X dJ0_init_db425_28 rfl rfl ?_
    refine g_iconst (v := (0 : Int32)) X dJ0_init_db425_29 (by decide) ?_
    refine g_iload X dJ0_init_db425_30 rfl ?_
    obtain ⟨r11, M11, hq11, hf⟩ := bd_e hf
    refine g_callS (As := [vR r1, vI (0 : Int32), vI r4]) (st := [vR (some x0)]) (v := some (vR r11)) (M1 := M11) X2 (m_J7_copyOfRange_39247 l hq11) (va_cwS 3 X.2.2.1 gJ0_init_db425_J7_copyOfRange_39247 rfl rfl rfl (by decide +kernel) ⟨Nat.le_of_ble_eq_true rfl, Nat.le_of_ble_eq_true rfl⟩) rfl rfl (Nat.le_of_ble_eq_true rfl) dJ0_init_db425_32 ⟨by decide, by decide⟩ ?_
    obtain ⟨hT12, hf⟩ := ck_e hf
    refine g_putR (ci := 11) 0 X cdJ0 i_J0_init_db425_J0 (by decide) k_J0_init_db425_f9 rfl dJ0_init_db425_35 rfl hT12 (Or.inr ⟨rfl, hin, rfl⟩) (gnA _ _) (gfA _ _) rfl ?_
    obtain ⟨M13, hM13, hf⟩ := lw_e hf
    rw [← hM13]
    have hT14 : mT M13 x0 = 12 := by rw [hM13]; exact hT12
    refine g_goto (tgt := 97) X dJ0_init_db425_38 (by decide) ?_
    cases hf
    refine g_eqQ hK ?_
    exact g_vret X hr dJ0_init_db425_97
set_option maxHeartbeats 4000000 in
set_option maxRecDepth 100000 in
theorem m_J0_init_db425 (l : Launch) {D : va_G} {cy : Nat → ClassId} {B : Nat} {H0 : Heap} {Z : Nat → Nat} {M M1 : gMem} {x0 : Nat} {x1 : Option Nat} {x2 : Option Nat} {r : Unit} (hf : f_J0_init_db425 Z M x0 x1 x2 = some (r, M1)) : Met l yJ0_init_db425 wsJ0_init_db425 rJ0_init_db425 (va_Pc (Value.ref x0 :: List.map gv [vR x1, vR x2]) (gPre D cy B H0 (gSt2 Z B H0) M)) (gQ D cy B H0 none M1) 1 2400 (gA B) := by
  refine Met.ofW (cc := cJ0_init_db425) (maxL := 5) (ret := none) (by decide) rfl ?_
  intro p e s m args below meth c s₁ Bd hml hv
  obtain ⟨rfl, hW, hKK, hFs⟩ := hv
  have X2 : gX p s m _ meth c D cy B (gSt2 Z B H0) RJ0 cJ0_init_db425 wsJ0_init_db425 5 := ⟨Bd.exec, Bd.bytes, atoms_spec (ws := wsJ0_init_db425) Bd.pre, findClass_of_methodNamed Bd.named, hml, hKK, by rw [hW.1]; exact hW.2.1, Bd.notSynchronized, hFs⟩
  have hr := Bd.returns
  have hin : meth.name = "<init>" := (name_of_methodNamed Bd.named Bd.method).1
  rcases x1 with _ | x1
  · rcases x2 with _ | x2
    · have hl := lv_entry ([.ref x0, .null, .null]) (n := 5) (Nat.le_of_ble_eq_true rfl)
      show W p l e rJ0_init_db425 s m _ below meth c s.heap [] 0 0 _ (entryFrame m ([.ref x0, .null, .null] : List Value).toArray 5)
      rw [lg_entry_eq]
      generalize (lg_sl ([.ref x0, .null, .null]) ++ List.replicate (5 - (lg_sl ([.ref x0, .null, .null])).length) Slot.unset).toArray = ls at hl ⊢
      have hl : lv_has ls 5 (List.map gq [(0, vR (some x0)), (1, vR none), (2, vR none)]) := hl
      exact t_J0_init_db425_0 X2 hr hin _ _ _ _ hf rfl s.heap [] ls hW va_S.rf (lv_has_sub hl (lvsub_of _ _ [0, 1] rfl))
    · have hl := lv_entry ([.ref x0, .null, .ref x2]) (n := 5) (Nat.le_of_ble_eq_true rfl)
      show W p l e rJ0_init_db425 s m _ below meth c s.heap [] 0 0 _ (entryFrame m ([.ref x0, .null, .ref x2] : List Value).toArray 5)
      rw [lg_entry_eq]
      generalize (lg_sl ([.ref x0, .null, .ref x2]) ++ List.replicate (5 - (lg_sl ([.ref x0, .null, .ref x2])).length) Slot.unset).toArray = ls at hl ⊢
      have hl : lv_has ls 5 (List.map gq [(0, vR (some x0)), (1, vR none), (2, vR (some x2))]) := hl
      exact t_J0_init_db425_0 X2 hr hin _ _ _ _ hf rfl s.heap [] ls hW va_S.rf (lv_has_sub hl (lvsub_of _ _ [0, 1] rfl))
  · rcases x2 with _ | x2
    · have hl := lv_entry ([.ref x0, .ref x1, .null]) (n := 5) (Nat.le_of_ble_eq_true rfl)
      show W p l e rJ0_init_db425 s m _ below meth c s.heap [] 0 0 _ (entryFrame m ([.ref x0, .ref x1, .null] : List Value).toArray 5)
      rw [lg_entry_eq]
      generalize (lg_sl ([.ref x0, .ref x1, .null]) ++ List.replicate (5 - (lg_sl ([.ref x0, .ref x1, .null])).length) Slot.unset).toArray = ls at hl ⊢
      have hl : lv_has ls 5 (List.map gq [(0, vR (some x0)), (1, vR (some x1)), (2, vR none)]) := hl
      exact t_J0_init_db425_0 X2 hr hin _ _ _ _ hf rfl s.heap [] ls hW va_S.rf (lv_has_sub hl (lvsub_of _ _ [0, 1] rfl))
    · have hl := lv_entry ([.ref x0, .ref x1, .ref x2]) (n := 5) (Nat.le_of_ble_eq_true rfl)
      show W p l e rJ0_init_db425 s m _ below meth c s.heap [] 0 0 _ (entryFrame m ([.ref x0, .ref x1, .ref x2] : List Value).toArray 5)
      rw [lg_entry_eq]
      generalize (lg_sl ([.ref x0, .ref x1, .ref x2]) ++ List.replicate (5 - (lg_sl ([.ref x0, .ref x1, .ref x2])).length) Slot.unset).toArray = ls at hl ⊢
      have hl : lv_has ls 5 (List.map gq [(0, vR (some x0)), (1, vR (some x1)), (2, vR (some x2))]) := hl
      exact t_J0_init_db425_0 X2 hr hin _ _ _ _ hf rfl s.heap [] ls hW va_S.rf (lv_has_sub hl (lvsub_of _ _ [0, 1] rfl))
/-! ## java/lang/String.<init>(Ljava/lang/StringBuilder;)V -/
theorem dJ0_init_81219_0 : decode cJ0_init_81219 0 = .ok (.aload_n 0, 1) := by decide +kernel
theorem dJ0_init_81219_1 : decode cJ0_init_81219 1 = .ok (.aload_n 1, 1) := by decide +kernel
theorem dJ0_init_81219_2 : decode cJ0_init_81219 2 = .ok (.aconst_null, 1) := by decide +kernel
theorem dJ0_init_81219_3 : decode cJ0_init_81219 3 = .ok (.invokespecial 489, 3) := by decide +kernel
theorem dJ0_init_81219_6 : decode cJ0_init_81219 6 = .ok (.return_, 1) := by decide +kernel
set_option maxRecDepth 20000 in
theorem ggJ0_init_81219_J0_init_db425 : GoodIn wsJ0_init_81219 wsJ0_init_db425 := goodIn_2 24 (goodIn_r _ [4, 5, 6, 7, 8, 9, 10, 11, 12, 13, 14, 15, 16, 17, 18, 19, 20, 21, 22, 23, 24, 25, 26, 27] (by decide +kernel) (by decide +kernel)) (goodIn_2 24 (goodIn_r _ [28, 29, 30, 31, 32, 33, 34, 35, 36, 37, 38, 39, 40, 41, 42, 43, 44, 45, 46, 47, 48, 49, 50, 51] (by decide +kernel) (by decide +kernel)) (goodIn_2 24 (goodIn_r _ [52, 53, 54, 55, 56, 57, 58, 59, 60, 61, 62, 63, 64, 65, 66, 67, 68, 69, 70, 71, 72, 73, 74, 75] (by decide +kernel) (by decide +kernel)) (goodIn_2 24 (goodIn_r _ [76, 77, 3, 78, 79, 80, 81, 82, 83, 84, 85, 86, 87, 88, 89, 90, 91, 92, 93, 94, 95, 96, 97, 98] (by decide +kernel) (by decide +kernel)) (goodIn_r _ [99, 100, 101, 102, 103, 104, 105] (by decide +kernel) (by decide +kernel)))))
set_option maxRecDepth 20000 in
theorem gJ0_init_81219_J0_init_db425 : GoodIn wsJ0_init_81219 (wsJ0_init_db425) := ggJ0_init_81219_J0_init_db425
theorem k_J0_init_81219_iiJ0 : Cond.initialized RJ0 ∈ wsJ0_init_81219 := by decide +kernel
theorem k_J0_init_81219_ml489 : Cond.methodLink RJ0 489 yJ0_init_db425 ∈ wsJ0_init_81219 := by decide +kernel
theorem k_J0_init_81219_imJ0_init_db425 : Cond.instanceMethod yJ0_init_db425 ∈ wsJ0_init_81219 := by decide +kernel
abbrev rJ0_init_81219 : Room := { frames := 4, cells := 1, slots := 2400, locals := 130 }
noncomputable def b_J0_init_81219_0 (Z : Nat → Nat) (M : gMem) (x0 : Nat) (x1 : Option Nat) : Option (Unit × gMem) :=
  bd (f_J0_init_db425 Z M x0 x1 none) fun _ M1 => some ((), M1)
noncomputable def f_J0_init_81219 (Z : Nat → Nat) (M : gMem) (x0 : Nat) (x1 : Option Nat) : Option (Unit × gMem) :=
  b_J0_init_81219_0 Z M x0 x1
set_option maxHeartbeats 4000000 in
set_option maxRecDepth 100000 in
theorem t_J0_init_81219_0 (X2 : gX p s m args meth c D cy B (gSt2 Z B H0) RJ0 cJ0_init_81219 wsJ0_init_81219 2) (hr : meth.sig.returnType = none) (hin : meth.name = "<init>") {Q : State → Prop} : ∀ (M : gMem) (x0 : Nat) (x1 : Option Nat) (z : Unit × gMem), b_J0_init_81219_0 Z M x0 x1 = some z → (fun (r : Unit × gMem) => Q = gMQ below D cy B H0 args s 1 2400 none r.2) z → gGo p l e rJ0_init_81219 s m args below meth c D cy B H0 2 0 0 Q 0 [(0, vR (some x0)), (1, vR x1)] [] M := by
  intro M x0 x1 z hf hK
  unfold b_J0_init_81219_0 at hf
  have X := gX_w X2
  refine g_aload_n X dJ0_init_81219_0 rfl rfl ?_
  refine g_aload_n X dJ0_init_81219_1 rfl rfl ?_
  refine g_null X dJ0_init_81219_2 ?_
  obtain ⟨r1, M1, hq1, hf⟩ := bd_e hf
  refine g_callI (b := x0) (As := [vR x1, vR none]) (st := []) (M1 := M1) X2 (m_J0_init_db425 l hq1) (cwI 2 X.2.2.1 gJ0_init_81219_J0_init_db425 rfl rfl rfl (X.2.2.1 _ k_J0_init_81219_iiJ0) (X.2.2.1 _ k_J0_init_81219_ml489) (X.2.2.1 _ k_J0_init_81219_imJ0_init_db425) rfl (by decide +kernel) ⟨Nat.le_of_ble_eq_true rfl, Nat.le_of_ble_eq_true rfl⟩) rfl rfl rfl (Nat.le_of_ble_eq_true rfl) dJ0_init_81219_3 ⟨by decide, by decide⟩ ?_
  cases hf
  refine g_eqQ hK ?_
  exact g_vret X hr dJ0_init_81219_6
set_option maxHeartbeats 4000000 in
set_option maxRecDepth 100000 in
theorem m_J0_init_81219 (l : Launch) {D : va_G} {cy : Nat → ClassId} {B : Nat} {H0 : Heap} {Z : Nat → Nat} {M M1 : gMem} {x0 : Nat} {x1 : Option Nat} {r : Unit} (hf : f_J0_init_81219 Z M x0 x1 = some (r, M1)) : Met l yJ0_init_81219 wsJ0_init_81219 rJ0_init_81219 (va_Pc (Value.ref x0 :: List.map gv [vR x1]) (gPre D cy B H0 (gSt2 Z B H0) M)) (gQ D cy B H0 none M1) 1 2400 (gA B) := by
  refine Met.ofW (cc := cJ0_init_81219) (maxL := 2) (ret := none) (by decide) rfl ?_
  intro p e s m args below meth c s₁ Bd hml hv
  obtain ⟨rfl, hW, hKK, hFs⟩ := hv
  have X2 : gX p s m _ meth c D cy B (gSt2 Z B H0) RJ0 cJ0_init_81219 wsJ0_init_81219 2 := ⟨Bd.exec, Bd.bytes, atoms_spec (ws := wsJ0_init_81219) Bd.pre, findClass_of_methodNamed Bd.named, hml, hKK, by rw [hW.1]; exact hW.2.1, Bd.notSynchronized, hFs⟩
  have hr := Bd.returns
  have hin : meth.name = "<init>" := (name_of_methodNamed Bd.named Bd.method).1
  rcases x1 with _ | x1
  · have hl := lv_entry ([.ref x0, .null]) (n := 2) (Nat.le_of_ble_eq_true rfl)
    show W p l e rJ0_init_81219 s m _ below meth c s.heap [] 0 0 _ (entryFrame m ([.ref x0, .null] : List Value).toArray 2)
    rw [lg_entry_eq]
    generalize (lg_sl ([.ref x0, .null]) ++ List.replicate (2 - (lg_sl ([.ref x0, .null])).length) Slot.unset).toArray = ls at hl ⊢
    have hl : lv_has ls 2 (List.map gq [(0, vR (some x0)), (1, vR none)]) := hl
    exact t_J0_init_81219_0 X2 hr hin _ _ _ _ hf rfl s.heap [] ls hW va_S.rf (lv_has_sub hl (lvsub_of _ _ [0, 1] rfl))
  · have hl := lv_entry ([.ref x0, .ref x1]) (n := 2) (Nat.le_of_ble_eq_true rfl)
    show W p l e rJ0_init_81219 s m _ below meth c s.heap [] 0 0 _ (entryFrame m ([.ref x0, .ref x1] : List Value).toArray 2)
    rw [lg_entry_eq]
    generalize (lg_sl ([.ref x0, .ref x1]) ++ List.replicate (2 - (lg_sl ([.ref x0, .ref x1])).length) Slot.unset).toArray = ls at hl ⊢
    have hl : lv_has ls 2 (List.map gq [(0, vR (some x0)), (1, vR (some x1))]) := hl
    exact t_J0_init_81219_0 X2 hr hin _ _ _ _ hf rfl s.heap [] ls hW va_S.rf (lv_has_sub hl (lvsub_of _ _ [0, 1] rfl))
/-! ## java/lang/StringBuilder.toString()Ljava/lang/String; -/
theorem dJ4_toString_0e30d_0 : decode cJ4_toString_0e30d 0 = .ok (.new 18, 3) := by decide +kernel
theorem dJ4_toString_0e30d_3 : decode cJ4_toString_0e30d 3 = .ok (.dup, 1) := by decide +kernel
theorem dJ4_toString_0e30d_4 : decode cJ4_toString_0e30d 4 = .ok (.aload_n 0, 1) := by decide +kernel
theorem dJ4_toString_0e30d_5 : decode cJ4_toString_0e30d 5 = .ok (.invokespecial 137, 3) := by decide +kernel
theorem dJ4_toString_0e30d_8 : decode cJ4_toString_0e30d 8 = .ok (.areturn, 1) := by decide +kernel
set_option maxRecDepth 20000 in
theorem ggJ4_toString_0e30d_J0_init_81219 : GoodIn wsJ4_toString_0e30d wsJ0_init_81219 := goodIn_2 24 (goodIn_r _ [6, 7, 8, 3, 9, 10, 11, 12, 13, 14, 15, 16, 17, 18, 19, 20, 21, 22, 23, 24, 25, 26, 27, 28] (by decide +kernel) (by decide +kernel)) (goodIn_2 24 (goodIn_r _ [29, 30, 31, 32, 33, 34, 35, 36, 37, 38, 39, 40, 41, 42, 43, 44, 45, 46, 47, 48, 49, 50, 51, 52] (by decide +kernel) (by decide +kernel)) (goodIn_2 24 (goodIn_r _ [53, 54, 55, 56, 57, 58, 59, 60, 61, 62, 63, 64, 65, 66, 67, 68, 69, 70, 71, 72, 73, 74, 75, 76] (by decide +kernel) (by decide +kernel)) (goodIn_2 24 (goodIn_r _ [77, 78, 79, 80, 81, 82, 83, 84, 85, 86, 87, 88, 89, 90, 91, 92, 93, 94, 95, 96, 97, 98, 99, 100] (by decide +kernel) (by decide +kernel)) (goodIn_r _ [101, 102, 103, 104, 105, 106, 107, 108, 109, 110] (by decide +kernel) (by decide +kernel)))))
set_option maxRecDepth 20000 in
theorem gJ4_toString_0e30d_J0_init_81219 : GoodIn wsJ4_toString_0e30d (wsJ0_init_81219) := ggJ4_toString_0e30d_J0_init_81219
theorem i_J4_toString_0e30d_J0 : ∀ w ∈ u_ws RJ0 TJ0 4, w ∈ wsJ4_toString_0e30d := by decide +kernel
theorem k_J4_toString_0e30d_cl18 : Cond.classLink RJ4 18 RJ0 ∈ wsJ4_toString_0e30d := by decide +kernel
theorem k_J4_toString_0e30d_inJ0 : Cond.instantiable RJ0 4 ∈ wsJ4_toString_0e30d := by decide +kernel
theorem k_J4_toString_0e30d_iiJ0 : Cond.initialized RJ0 ∈ wsJ4_toString_0e30d := by decide +kernel
theorem k_J4_toString_0e30d_ml137 : Cond.methodLink RJ4 137 yJ0_init_81219 ∈ wsJ4_toString_0e30d := by decide +kernel
theorem k_J4_toString_0e30d_imJ0_init_81219 : Cond.instanceMethod yJ0_init_81219 ∈ wsJ4_toString_0e30d := by decide +kernel
abbrev rJ4_toString_0e30d : Room := { frames := 5, cells := 2, slots := 2404, locals := 151 }
noncomputable def b_J4_toString_0e30d_0 (Z : Nat → Nat) (M : gMem) (x0 : Nat) : Option (Option Nat × gMem) :=
  lw (nW M 12 0) fun M1 => bd (f_J0_init_81219 Z M1 ((mN M)) ((some x0))) fun _ M2 => some ((some (mN M)), M2)
noncomputable def f_J4_toString_0e30d (Z : Nat → Nat) (M : gMem) (x0 : Nat) : Option (Option Nat × gMem) :=
  b_J4_toString_0e30d_0 Z M x0
set_option maxHeartbeats 4000000 in
set_option maxRecDepth 100000 in
theorem t_J4_toString_0e30d_0 (X2 : gX p s m args meth c D cy B (gSt2 Z B H0) RJ4 cJ4_toString_0e30d wsJ4_toString_0e30d 1) (hr : meth.sig.returnType = (some (.object "java/lang/String"))) {Q : State → Prop} : ∀ (M : gMem) (x0 : Nat) (z : Option Nat × gMem), b_J4_toString_0e30d_0 Z M x0 = some z → (fun (r : Option Nat × gMem) => Q = gMQ below D cy B H0 args s 2 2404 (some (vR r.1)) r.2) z → gGo p l e rJ4_toString_0e30d s m args below meth c D cy B H0 1 0 0 Q 0 [(0, vR (some x0))] [] M := by
  intro M x0 z hf hK
  unfold b_J4_toString_0e30d_0 at hf
  have X := gX_w X2
  refine g_new (ci := 11) X cdJ0 i_J4_toString_0e30d_J0 k_J4_toString_0e30d_cl18 k_J4_toString_0e30d_inJ0 k_J4_toString_0e30d_iiJ0 (by intro i hi; rcases (show i = 0 ∨ i = 1 ∨ i = 2 ∨ i = 3 by omega) with rfl | rfl | rfl | rfl <;> rfl) ⟨by decide, by decide⟩ dJ4_toString_0e30d_0 ?_
  obtain ⟨M1, hM1, hf⟩ := lw_e hf
  rw [← hM1]
  refine g_dup X dJ4_toString_0e30d_3 rfl ?_
  refine g_aload_n X dJ4_toString_0e30d_4 rfl rfl ?_
  obtain ⟨r2, M2, hq2, hf⟩ := bd_e hf
  refine g_callI (b := (mN M)) (As := [vR (some x0)]) (st := [vR (some (mN M))]) (M1 := M2) X2 (m_J0_init_81219 l hq2) (cwI 1 X.2.2.1 gJ4_toString_0e30d_J0_init_81219 rfl rfl rfl (X.2.2.1 _ k_J4_toString_0e30d_iiJ0) (X.2.2.1 _ k_J4_toString_0e30d_ml137) (X.2.2.1 _ k_J4_toString_0e30d_imJ0_init_81219) rfl (by decide +kernel) ⟨Nat.le_of_ble_eq_true rfl, Nat.le_of_ble_eq_true rfl⟩) rfl rfl rfl (Nat.le_of_ble_eq_true rfl) dJ4_toString_0e30d_5 ⟨by decide, by decide⟩ ?_
  cases hf
  refine g_eqQ hK ?_
  exact g_aret X hr (Or.inl ⟨_, rfl⟩) dJ4_toString_0e30d_8
set_option maxHeartbeats 4000000 in
set_option maxRecDepth 100000 in
theorem m_J4_toString_0e30d (l : Launch) {D : va_G} {cy : Nat → ClassId} {B : Nat} {H0 : Heap} {Z : Nat → Nat} {M M1 : gMem} {x0 : Nat} {r : Option Nat} (hf : f_J4_toString_0e30d Z M x0 = some (r, M1)) : Met l yJ4_toString_0e30d wsJ4_toString_0e30d rJ4_toString_0e30d (va_Pc (Value.ref x0 :: List.map gv []) (gPre D cy B H0 (gSt2 Z B H0) M)) (gQ D cy B H0 (some (vR r)) M1) 2 2404 (gA B) := by
  refine Met.ofW (cc := cJ4_toString_0e30d) (maxL := 1) (ret := (some (.object "java/lang/String"))) (by decide) rfl ?_
  intro p e s m args below meth c s₁ Bd hml hv
  obtain ⟨rfl, hW, hKK, hFs⟩ := hv
  have X2 : gX p s m _ meth c D cy B (gSt2 Z B H0) RJ4 cJ4_toString_0e30d wsJ4_toString_0e30d 1 := ⟨Bd.exec, Bd.bytes, atoms_spec (ws := wsJ4_toString_0e30d) Bd.pre, findClass_of_methodNamed Bd.named, hml, hKK, by rw [hW.1]; exact hW.2.1, Bd.notSynchronized, hFs⟩
  have hr := Bd.returns
  have hl := lv_entry ([.ref x0]) (n := 1) (Nat.le_of_ble_eq_true rfl)
  show W p l e rJ4_toString_0e30d s m _ below meth c s.heap [] 0 0 _ (entryFrame m ([.ref x0] : List Value).toArray 1)
  rw [lg_entry_eq]
  generalize (lg_sl ([.ref x0]) ++ List.replicate (1 - (lg_sl ([.ref x0])).length) Slot.unset).toArray = ls at hl ⊢
  have hl : lv_has ls 1 (List.map gq [(0, vR (some x0))]) := hl
  exact t_J4_toString_0e30d_0 X2 hr _ _ _ hf rfl s.heap [] ls hW va_S.rf (lv_has_sub hl (lvsub_of _ _ [0] rfl))
end
