section
variable {p : Program} {l : Launch} {e : Env} {s : State} {m : MethodId} {args : Array Value} {below : List Frame} {meth : Method} {c : Code} {D : va_G} {cy : Nat → ClassId} {B : Nat} {H0 : Heap} {Z : Nat → Nat}
/-! ## TideLots$Shore.forget()V -/
theorem dX7_forget_0 : decode cX7_forget 0 = .ok (.aload_n 0, 1) := by decide +kernel
theorem dX7_forget_1 : decode cX7_forget 1 = .ok (.iconst 0, 1) := by decide +kernel
theorem dX7_forget_2 : decode cX7_forget 2 = .ok (.putfield 72, 3) := by decide +kernel
theorem dX7_forget_5 : decode cX7_forget 5 = .ok (.aload_n 0, 1) := by decide +kernel
theorem dX7_forget_6 : decode cX7_forget 6 = .ok (.iconst 0, 1) := by decide +kernel
theorem dX7_forget_7 : decode cX7_forget 7 = .ok (.putfield 75, 3) := by decide +kernel
theorem dX7_forget_10 : decode cX7_forget 10 = .ok (.aload_n 0, 1) := by decide +kernel
theorem dX7_forget_11 : decode cX7_forget 11 = .ok (.iconst 0, 1) := by decide +kernel
theorem dX7_forget_12 : decode cX7_forget 12 = .ok (.putfield 78, 3) := by decide +kernel
theorem dX7_forget_15 : decode cX7_forget 15 = .ok (.aload_n 0, 1) := by decide +kernel
theorem dX7_forget_16 : decode cX7_forget 16 = .ok (.iconst 0, 1) := by decide +kernel
theorem dX7_forget_17 : decode cX7_forget 17 = .ok (.putfield 81, 3) := by decide +kernel
theorem dX7_forget_20 : decode cX7_forget 20 = .ok (.aload_n 0, 1) := by decide +kernel
theorem dX7_forget_21 : decode cX7_forget 21 = .ok (.getfield 42, 3) := by decide +kernel
theorem dX7_forget_24 : decode cX7_forget 24 = .ok (.iconst 0, 1) := by decide +kernel
theorem dX7_forget_25 : decode cX7_forget 25 = .ok (.putfield 84, 3) := by decide +kernel
theorem dX7_forget_28 : decode cX7_forget 28 = .ok (.return_, 1) := by decide +kernel
theorem k_X7_forget_f72 : Cond.fieldLink RX7 72 "TideLots$Shore" "groundCount" "I" ∈ wsX7_forget := by decide +kernel
theorem i_X7_forget_X7 : ∀ w ∈ u_ws RX7 TX7 17, w ∈ wsX7_forget := by decide +kernel
theorem k_X7_forget_f75 : Cond.fieldLink RX7 75 "TideLots$Shore" "fisherCount" "I" ∈ wsX7_forget := by decide +kernel
theorem k_X7_forget_f78 : Cond.fieldLink RX7 78 "TideLots$Shore" "goCount" "I" ∈ wsX7_forget := by decide +kernel
theorem k_X7_forget_f81 : Cond.fieldLink RX7 81 "TideLots$Shore" "pactCount" "I" ∈ wsX7_forget := by decide +kernel
theorem k_X7_forget_f42 : Cond.fieldLink RX7 42 "TideLots$Shore" "sums" "LTideLots$Sums;" ∈ wsX7_forget := by decide +kernel
theorem k_X7_forget_f84 : Cond.fieldLink RX7 84 "TideLots$Sums" "length" "I" ∈ wsX7_forget := by decide +kernel
theorem i_X7_forget_X9 : ∀ w ∈ u_ws RX9 TX9 4, w ∈ wsX7_forget := by decide +kernel
abbrev rX7_forget : Room := { frames := 0, cells := 0, slots := 0, locals := 0 }
noncomputable def b_X7_forget_0 (M : gMem) (x0 : Nat) : Option (Unit × gMem) :=
  ck (mT M x0 = 7) <| lw (wI M x0 2 ((0 : Int32))) fun M2 => lw (wI M2 x0 3 ((0 : Int32))) fun M4 => lw (wI M4 x0 4 ((0 : Int32))) fun M6 => lw (wI M6 x0 5 ((0 : Int32))) fun M8 => dr ((mR M8 x0 10)) fun a10 => ck (mT M8 a10 = 8) <| lw (wI M8 a10 0 ((0 : Int32))) fun M12 => some ((), M12)
noncomputable def f_X7_forget (M : gMem) (x0 : Nat) : Option (Unit × gMem) :=
  b_X7_forget_0 M x0
set_option maxHeartbeats 4000000 in
set_option maxRecDepth 100000 in
theorem t_X7_forget_0 (X : gX p s m args meth c D cy B (gSt Z B H0) RX7 cX7_forget wsX7_forget 1) (hr : meth.sig.returnType = none) {Q : State → Prop} : ∀ (M : gMem) (x0 : Nat) (z : Unit × gMem), b_X7_forget_0 M x0 = some z → (fun (r : Unit × gMem) => Q = gMQ below D cy B H0 args s 0 0 none r.2) z → gGo p l e rX7_forget s m args below meth c D cy B H0 1 0 0 Q 0 [(0, vR (some x0))] [] M := by
  intro M x0 z hf hK
  unfold b_X7_forget_0 at hf
  refine g_aload_n X dX7_forget_0 rfl rfl ?_
  refine g_iconst (v := (0 : Int32)) X dX7_forget_1 (by decide) ?_
  obtain ⟨hT1, hf⟩ := ck_e hf
  refine g_putI (ci := 6) 2 X cdX7 i_X7_forget_X7 (by decide) k_X7_forget_f72 rfl dX7_forget_2 rfl hT1 (Or.inl rfl) rfl rfl rfl ?_
  obtain ⟨M2, hM2, hf⟩ := lw_e hf
  rw [← hM2]
  have hT3 : mT M2 x0 = 7 := by rw [hM2]; exact hT1
  refine g_aload_n X dX7_forget_5 rfl rfl ?_
  refine g_iconst (v := (0 : Int32)) X dX7_forget_6 (by decide) ?_
  refine g_putI (ci := 6) 3 X cdX7 i_X7_forget_X7 (by decide) k_X7_forget_f75 rfl dX7_forget_7 rfl hT3 (Or.inl rfl) rfl rfl rfl ?_
  obtain ⟨M4, hM4, hf⟩ := lw_e hf
  rw [← hM4]
  have hT5 : mT M4 x0 = 7 := by rw [hM4]; exact hT3
  refine g_aload_n X dX7_forget_10 rfl rfl ?_
  refine g_iconst (v := (0 : Int32)) X dX7_forget_11 (by decide) ?_
  refine g_putI (ci := 6) 4 X cdX7 i_X7_forget_X7 (by decide) k_X7_forget_f78 rfl dX7_forget_12 rfl hT5 (Or.inl rfl) rfl rfl rfl ?_
  obtain ⟨M6, hM6, hf⟩ := lw_e hf
  rw [← hM6]
  have hT7 : mT M6 x0 = 7 := by rw [hM6]; exact hT5
  refine g_aload_n X dX7_forget_15 rfl rfl ?_
  refine g_iconst (v := (0 : Int32)) X dX7_forget_16 (by decide) ?_
  refine g_putI (ci := 6) 5 X cdX7 i_X7_forget_X7 (by decide) k_X7_forget_f81 rfl dX7_forget_17 rfl hT7 (Or.inl rfl) rfl rfl rfl ?_
  obtain ⟨M8, hM8, hf⟩ := lw_e hf
  rw [← hM8]
  have hT9 : mT M8 x0 = 7 := by rw [hM8]; exact hT7
  refine g_aload_n X dX7_forget_20 rfl rfl ?_
  refine g_get (ci := 6) (v := vR (mR M8 x0 10)) 10 X cdX7 i_X7_forget_X7 (by decide) k_X7_forget_f42 rfl dX7_forget_21 rfl hT9 rfl ?_
  refine g_iconst (v := (0 : Int32)) X dX7_forget_24 (by decide) ?_
  obtain ⟨a10, ha10, hf⟩ := dr_e hf
  obtain ⟨hT11, hf⟩ := ck_e hf
  refine g_putI (ci := 7) 0 X cdX9 i_X7_forget_X9 (by decide) k_X7_forget_f84 rfl dX7_forget_25 ha10 hT11 (Or.inl rfl) rfl rfl rfl ?_
  obtain ⟨M12, hM12, hf⟩ := lw_e hf
  rw [← hM12]
  have hT13 : mT M12 x0 = 7 := by rw [hM12]; exact hT9
  have hT14 : mT M12 a10 = 8 := by rw [hM12]; exact hT11
  cases hf
  refine g_eqQ hK ?_
  exact g_vret X hr dX7_forget_28
set_option maxHeartbeats 4000000 in
set_option maxRecDepth 100000 in
theorem m_X7_forget (l : Launch) {D : va_G} {cy : Nat → ClassId} {B : Nat} {H0 : Heap} {Z : Nat → Nat} {M M1 : gMem} {x0 : Nat} {r : Unit} (hf : f_X7_forget M x0 = some (r, M1)) : Met l yX7_forget wsX7_forget rX7_forget (va_Pc (Value.ref x0 :: List.map gv []) (gPre D cy B H0 (gSt Z B H0) M)) (gQ D cy B H0 none M1) 0 0 (gA B) := by
  refine Met.ofW (cc := cX7_forget) (maxL := 1) (ret := none) (by decide) rfl ?_
  intro p e s m args below meth c s₁ Bd hml hv
  obtain ⟨rfl, hW, hKK, hFs⟩ := hv
  have X : gX p s m _ meth c D cy B (gSt Z B H0) RX7 cX7_forget wsX7_forget 1 := ⟨Bd.exec, Bd.bytes, atoms_spec (ws := wsX7_forget) Bd.pre, findClass_of_methodNamed Bd.named, hml, hKK, by rw [hW.1]; exact hW.2.1, Bd.notSynchronized, hFs⟩
  have hr := Bd.returns
  have hl := lv_entry ([.ref x0]) (n := 1) (Nat.le_of_ble_eq_true rfl)
  show W p l e rX7_forget s m _ below meth c s.heap [] 0 0 _ (entryFrame m ([.ref x0] : List Value).toArray 1)
  rw [lg_entry_eq]
  generalize (lg_sl ([.ref x0]) ++ List.replicate (1 - (lg_sl ([.ref x0])).length) Slot.unset).toArray = ls at hl ⊢
  have hl : lv_has ls 1 (List.map gq [(0, vR (some x0))]) := hl
  exact t_X7_forget_0 X hr _ _ _ hf rfl s.heap [] ls hW va_S.rf (lv_has_sub hl (lvsub_of _ _ [0] rfl))
/-! ## TideLots$Shore.nextGround()LTideLots$Ground; -/
theorem dX7_nextGround_0 : decode cX7_nextGround 0 = .ok (.aload_n 0, 1) := by decide +kernel
theorem dX7_nextGround_1 : decode cX7_nextGround 1 = .ok (.aload_n 0, 1) := by decide +kernel
theorem dX7_nextGround_2 : decode cX7_nextGround 2 = .ok (.getfield 72, 3) := by decide +kernel
theorem dX7_nextGround_5 : decode cX7_nextGround 5 = .ok (.iconst 1, 1) := by decide +kernel
theorem dX7_nextGround_6 : decode cX7_nextGround 6 = .ok (.iadd, 1) := by decide +kernel
theorem dX7_nextGround_7 : decode cX7_nextGround 7 = .ok (.bipush 8, 2) := by decide +kernel
theorem dX7_nextGround_9 : decode cX7_nextGround 9 = .ok (.invokestatic 87, 3) := by decide +kernel
theorem dX7_nextGround_12 : decode cX7_nextGround 12 = .ok (.putfield 72, 3) := by decide +kernel
theorem dX7_nextGround_15 : decode cX7_nextGround 15 = .ok (.aload_n 0, 1) := by decide +kernel
theorem dX7_nextGround_16 : decode cX7_nextGround 16 = .ok (.getfield 17, 3) := by decide +kernel
theorem dX7_nextGround_19 : decode cX7_nextGround 19 = .ok (.aload_n 0, 1) := by decide +kernel
theorem dX7_nextGround_20 : decode cX7_nextGround 20 = .ok (.getfield 72, 3) := by decide +kernel
theorem dX7_nextGround_23 : decode cX7_nextGround 23 = .ok (.iconst 1, 1) := by decide +kernel
theorem dX7_nextGround_24 : decode cX7_nextGround 24 = .ok (.isub, 1) := by decide +kernel
theorem dX7_nextGround_25 : decode cX7_nextGround 25 = .ok (.aaload, 1) := by decide +kernel
theorem dX7_nextGround_26 : decode cX7_nextGround 26 = .ok (.astore_n 1, 1) := by decide +kernel
theorem dX7_nextGround_27 : decode cX7_nextGround 27 = .ok (.aload_n 1, 1) := by decide +kernel
theorem dX7_nextGround_28 : decode cX7_nextGround 28 = .ok (.aload_n 0, 1) := by decide +kernel
theorem dX7_nextGround_29 : decode cX7_nextGround 29 = .ok (.getfield 57, 3) := by decide +kernel
theorem dX7_nextGround_32 : decode cX7_nextGround 32 = .ok (.invokevirtual 93, 3) := by decide +kernel
theorem dX7_nextGround_35 : decode cX7_nextGround 35 = .ok (.aload_n 1, 1) := by decide +kernel
theorem dX7_nextGround_36 : decode cX7_nextGround 36 = .ok (.areturn, 1) := by decide +kernel
set_option maxRecDepth 20000 in
theorem ggX7_nextGround_X3_copyFrom : GoodIn wsX7_nextGround wsX3_copyFrom := goodIn_r _ [12, 13, 14, 15, 16, 34, 35, 36, 37] (by decide +kernel) (by decide +kernel)
set_option maxRecDepth 20000 in
theorem gX7_nextGround_X3_copyFrom : GoodIn wsX7_nextGround (wsV RX7 93 RX3 yX3_copyFrom wsX3_copyFrom) := goodIn_app (goodIn_of _ (by decide +kernel)) ggX7_nextGround_X3_copyFrom
theorem k_X7_nextGround_f72 : Cond.fieldLink RX7 72 "TideLots$Shore" "groundCount" "I" ∈ wsX7_nextGround := by decide +kernel
theorem i_X7_nextGround_X7 : ∀ w ∈ u_ws RX7 TX7 17, w ∈ wsX7_nextGround := by decide +kernel
theorem k_X7_nextGround_m87 : Cond.methodLink RX7 87 Lib.Math.min.name ∈ wsX7_nextGround := by decide +kernel
theorem k_X7_nextGround_mmins : Cond.static Lib.Math.min.name ∈ wsX7_nextGround := by decide +kernel
theorem k_X7_nextGround_mi : Cond.initialized "java/lang/Math" ∈ wsX7_nextGround := by decide +kernel
theorem k_X7_nextGround_mminc : Cond.code Lib.Math.min.name Lib.Math.min.code 2 (some .int) ∈ wsX7_nextGround := by decide +kernel
theorem k_X7_nextGround_f17 : Cond.fieldLink RX7 17 "TideLots$Shore" "grounds" "[LTideLots$Ground;" ∈ wsX7_nextGround := by decide +kernel
theorem k_X7_nextGround_f57 : Cond.fieldLink RX7 57 "TideLots$Shore" "newGround" "LTideLots$Ground;" ∈ wsX7_nextGround := by decide +kernel
abbrev rX7_nextGround : Room := { frames := 1, cells := 0, slots := 0, locals := 22 }
noncomputable def b_X7_nextGround_0 (M : gMem) (x0 : Nat) : Option (Option Nat × gMem) :=
  ck (mT M x0 = 7) <| lw (wI M x0 2 ((imin (((mI M x0 2) + (1 : Int32))) ((8 : Int32))))) fun M2 => dr ((mR M2 x0 6)) fun a4 => ck (mT M2 a4 = 23) <| ck (inb ((mI M2 x0 2) - (1 : Int32)) (mL M2 a4)) <| dr ((mR M2 a4 (((mI M2 x0 2) - (1 : Int32))).toNatClampNeg)) fun a8 => ck (mT M2 a8 = 3) <| bd (f_X3_copyFrom M2 a8 ((mR M2 x0 14))) fun _ M7 => some ((mR M2 a4 (((mI M2 x0 2) - (1 : Int32))).toNatClampNeg), M7)
noncomputable def f_X7_nextGround (M : gMem) (x0 : Nat) : Option (Option Nat × gMem) :=
  b_X7_nextGround_0 M x0
set_option maxHeartbeats 4000000 in
set_option maxRecDepth 100000 in
theorem t_X7_nextGround_0 (X : gX p s m args meth c D cy B (gSt Z B H0) RX7 cX7_nextGround wsX7_nextGround 2) (hr : meth.sig.returnType = (some (.object "TideLots$Ground"))) {Q : State → Prop} : ∀ (M : gMem) (x0 : Nat) (z : Option Nat × gMem), b_X7_nextGround_0 M x0 = some z → (fun (r : Option Nat × gMem) => Q = gMQ below D cy B H0 args s 0 0 (some (vR r.1)) r.2) z → gGo p l e rX7_nextGround s m args below meth c D cy B H0 2 0 0 Q 0 [(0, vR (some x0))] [] M := by
  intro M x0 z hf hK
  unfold b_X7_nextGround_0 at hf
  refine g_aload_n X dX7_nextGround_0 rfl rfl ?_
  refine g_aload_n X dX7_nextGround_1 rfl rfl ?_
  obtain ⟨hT1, hf⟩ := ck_e hf
  refine g_get (ci := 6) (v := vI (mI M x0 2)) 2 X cdX7 i_X7_nextGround_X7 (by decide) k_X7_nextGround_f72 rfl dX7_nextGround_2 rfl hT1 rfl ?_
  refine g_iconst (v := (1 : Int32)) X dX7_nextGround_5 (by decide) ?_
  refine g_iadd X dX7_nextGround_6 ?_
  refine g_bipush (v := (8 : Int32)) X dX7_nextGround_7 (by decide) ?_
  refine g_min X k_X7_nextGround_m87 k_X7_nextGround_mmins k_X7_nextGround_mi k_X7_nextGround_mminc (Nat.le_of_ble_eq_true rfl) (Nat.le_of_ble_eq_true rfl) ⟨by decide, by decide⟩ dX7_nextGround_9 ?_
  refine g_putI (ci := 6) 2 X cdX7 i_X7_nextGround_X7 (by decide) k_X7_nextGround_f72 rfl dX7_nextGround_12 rfl hT1 (Or.inl rfl) rfl rfl rfl ?_
  obtain ⟨M2, hM2, hf⟩ := lw_e hf
  rw [← hM2]
  have hT3 : mT M2 x0 = 7 := by rw [hM2]; exact hT1
  refine g_aload_n X dX7_nextGround_15 rfl rfl ?_
  refine g_get (ci := 6) (v := vR (mR M2 x0 6)) 6 X cdX7 i_X7_nextGround_X7 (by decide) k_X7_nextGround_f17 rfl dX7_nextGround_16 rfl hT3 rfl ?_
  refine g_aload_n X dX7_nextGround_19 rfl rfl ?_
  refine g_get (ci := 6) (v := vI (mI M2 x0 2)) 2 X cdX7 i_X7_nextGround_X7 (by decide) k_X7_nextGround_f72 rfl dX7_nextGround_20 rfl hT3 rfl ?_
  refine g_iconst (v := (1 : Int32)) X dX7_nextGround_23 (by decide) ?_
  refine g_isub X dX7_nextGround_24 ?_
  obtain ⟨a4, ha4, hf⟩ := dr_e hf
  obtain ⟨hT5, hf⟩ := ck_e hf
  obtain ⟨hg6, hf⟩ := ck_e hf
  refine g_aald (t0 := 3) X dX7_nextGround_25 ha4 hT5 (by decide) rfl hg6 ?_
  refine g_astore_n (lv' := [(1, vR (mR M2 a4 (((mI M2 x0 2) - (1 : Int32))).toNatClampNeg)), (0, vR (some x0))]) X dX7_nextGround_26 rfl (by decide) rfl ?_
  refine g_aload_n X dX7_nextGround_27 rfl rfl ?_
  refine g_aload_n X dX7_nextGround_28 rfl rfl ?_
  refine g_get (ci := 6) (v := vR (mR M2 x0 14)) 14 X cdX7 i_X7_nextGround_X7 (by decide) k_X7_nextGround_f57 rfl dX7_nextGround_29 rfl hT3 rfl ?_
  obtain ⟨a8, ha8, hf⟩ := dr_e hf
  obtain ⟨hT9, hf⟩ := ck_e hf
  obtain ⟨r7, M7, hq7, hf⟩ := bd_e hf
  refine g_callV (ci := 2) (b := a8) (As := [vR (mR M2 x0 14)]) (st := []) (v := none) (M1 := M7) X (m_X3_copyFrom l hq7) (cwV 1 X.2.2.1 gX7_nextGround_X3_copyFrom rfl rfl rfl (by decide +kernel) ⟨Nat.le_of_ble_eq_true rfl, Nat.le_of_ble_eq_true rfl⟩) rfl rfl ha8 hT9 (by decide) rfl (Nat.le_of_ble_eq_true rfl) dX7_nextGround_32 ⟨by decide, by decide⟩ ?_
  refine g_aload_n X dX7_nextGround_35 rfl rfl ?_
  cases hf
  refine g_eqQ hK ?_
  exact g_aret X hr (Or.inl ⟨_, rfl⟩) dX7_nextGround_36
set_option maxHeartbeats 4000000 in
set_option maxRecDepth 100000 in
theorem m_X7_nextGround (l : Launch) {D : va_G} {cy : Nat → ClassId} {B : Nat} {H0 : Heap} {Z : Nat → Nat} {M M1 : gMem} {x0 : Nat} {r : Option Nat} (hf : f_X7_nextGround M x0 = some (r, M1)) : Met l yX7_nextGround wsX7_nextGround rX7_nextGround (va_Pc (Value.ref x0 :: List.map gv []) (gPre D cy B H0 (gSt Z B H0) M)) (gQ D cy B H0 (some (vR r)) M1) 0 0 (gA B) := by
  refine Met.ofW (cc := cX7_nextGround) (maxL := 2) (ret := (some (.object "TideLots$Ground"))) (by decide) rfl ?_
  intro p e s m args below meth c s₁ Bd hml hv
  obtain ⟨rfl, hW, hKK, hFs⟩ := hv
  have X : gX p s m _ meth c D cy B (gSt Z B H0) RX7 cX7_nextGround wsX7_nextGround 2 := ⟨Bd.exec, Bd.bytes, atoms_spec (ws := wsX7_nextGround) Bd.pre, findClass_of_methodNamed Bd.named, hml, hKK, by rw [hW.1]; exact hW.2.1, Bd.notSynchronized, hFs⟩
  have hr := Bd.returns
  have hl := lv_entry ([.ref x0]) (n := 2) (Nat.le_of_ble_eq_true rfl)
  show W p l e rX7_nextGround s m _ below meth c s.heap [] 0 0 _ (entryFrame m ([.ref x0] : List Value).toArray 2)
  rw [lg_entry_eq]
  generalize (lg_sl ([.ref x0]) ++ List.replicate (2 - (lg_sl ([.ref x0])).length) Slot.unset).toArray = ls at hl ⊢
  have hl : lv_has ls 2 (List.map gq [(0, vR (some x0))]) := hl
  exact t_X7_nextGround_0 X hr _ _ _ hf rfl s.heap [] ls hW va_S.rf (lv_has_sub hl (lvsub_of _ _ [0] rfl))
/-! ## TideLots$Shore.nextFisher()LTideLots$Fisher; -/
theorem dX7_nextFisher_0 : decode cX7_nextFisher 0 = .ok (.aload_n 0, 1) := by decide +kernel
theorem dX7_nextFisher_1 : decode cX7_nextFisher 1 = .ok (.aload_n 0, 1) := by decide +kernel
theorem dX7_nextFisher_2 : decode cX7_nextFisher 2 = .ok (.getfield 75, 3) := by decide +kernel
theorem dX7_nextFisher_5 : decode cX7_nextFisher 5 = .ok (.iconst 1, 1) := by decide +kernel
theorem dX7_nextFisher_6 : decode cX7_nextFisher 6 = .ok (.iadd, 1) := by decide +kernel
theorem dX7_nextFisher_7 : decode cX7_nextFisher 7 = .ok (.bipush 8, 2) := by decide +kernel
theorem dX7_nextFisher_9 : decode cX7_nextFisher 9 = .ok (.invokestatic 87, 3) := by decide +kernel
theorem dX7_nextFisher_12 : decode cX7_nextFisher 12 = .ok (.putfield 75, 3) := by decide +kernel
theorem dX7_nextFisher_15 : decode cX7_nextFisher 15 = .ok (.aload_n 0, 1) := by decide +kernel
theorem dX7_nextFisher_16 : decode cX7_nextFisher 16 = .ok (.getfield 23, 3) := by decide +kernel
theorem dX7_nextFisher_19 : decode cX7_nextFisher 19 = .ok (.aload_n 0, 1) := by decide +kernel
theorem dX7_nextFisher_20 : decode cX7_nextFisher 20 = .ok (.getfield 75, 3) := by decide +kernel
theorem dX7_nextFisher_23 : decode cX7_nextFisher 23 = .ok (.iconst 1, 1) := by decide +kernel
theorem dX7_nextFisher_24 : decode cX7_nextFisher 24 = .ok (.isub, 1) := by decide +kernel
theorem dX7_nextFisher_25 : decode cX7_nextFisher 25 = .ok (.aaload, 1) := by decide +kernel
theorem dX7_nextFisher_26 : decode cX7_nextFisher 26 = .ok (.astore_n 1, 1) := by decide +kernel
theorem dX7_nextFisher_27 : decode cX7_nextFisher 27 = .ok (.aload_n 1, 1) := by decide +kernel
theorem dX7_nextFisher_28 : decode cX7_nextFisher 28 = .ok (.aload_n 0, 1) := by decide +kernel
theorem dX7_nextFisher_29 : decode cX7_nextFisher 29 = .ok (.getfield 62, 3) := by decide +kernel
theorem dX7_nextFisher_32 : decode cX7_nextFisher 32 = .ok (.invokevirtual 97, 3) := by decide +kernel
theorem dX7_nextFisher_35 : decode cX7_nextFisher 35 = .ok (.aload_n 1, 1) := by decide +kernel
theorem dX7_nextFisher_36 : decode cX7_nextFisher 36 = .ok (.areturn, 1) := by decide +kernel
set_option maxRecDepth 20000 in
theorem ggX7_nextFisher_X1_copyFrom : GoodIn wsX7_nextFisher wsX1_copyFrom := goodIn_r _ [12, 13, 14, 15, 16, 17, 18, 19, 20, 21, 22, 23, 41, 42, 43, 44, 45, 46, 47, 48, 49, 50, 51] (by decide +kernel) (by decide +kernel)
set_option maxRecDepth 20000 in
theorem gX7_nextFisher_X1_copyFrom : GoodIn wsX7_nextFisher (wsV RX7 97 RX1 yX1_copyFrom wsX1_copyFrom) := goodIn_app (goodIn_of _ (by decide +kernel)) ggX7_nextFisher_X1_copyFrom
theorem k_X7_nextFisher_f75 : Cond.fieldLink RX7 75 "TideLots$Shore" "fisherCount" "I" ∈ wsX7_nextFisher := by decide +kernel
theorem i_X7_nextFisher_X7 : ∀ w ∈ u_ws RX7 TX7 17, w ∈ wsX7_nextFisher := by decide +kernel
theorem k_X7_nextFisher_m87 : Cond.methodLink RX7 87 Lib.Math.min.name ∈ wsX7_nextFisher := by decide +kernel
theorem k_X7_nextFisher_mmins : Cond.static Lib.Math.min.name ∈ wsX7_nextFisher := by decide +kernel
theorem k_X7_nextFisher_mi : Cond.initialized "java/lang/Math" ∈ wsX7_nextFisher := by decide +kernel
theorem k_X7_nextFisher_mminc : Cond.code Lib.Math.min.name Lib.Math.min.code 2 (some .int) ∈ wsX7_nextFisher := by decide +kernel
theorem k_X7_nextFisher_f23 : Cond.fieldLink RX7 23 "TideLots$Shore" "fishers" "[LTideLots$Fisher;" ∈ wsX7_nextFisher := by decide +kernel
theorem k_X7_nextFisher_f62 : Cond.fieldLink RX7 62 "TideLots$Shore" "newFisher" "LTideLots$Fisher;" ∈ wsX7_nextFisher := by decide +kernel
abbrev rX7_nextFisher : Room := { frames := 1, cells := 0, slots := 0, locals := 22 }
noncomputable def b_X7_nextFisher_0 (M : gMem) (x0 : Nat) : Option (Option Nat × gMem) :=
  ck (mT M x0 = 7) <| lw (wI M x0 3 ((imin (((mI M x0 3) + (1 : Int32))) ((8 : Int32))))) fun M2 => dr ((mR M2 x0 7)) fun a4 => ck (mT M2 a4 = 24) <| ck (inb ((mI M2 x0 3) - (1 : Int32)) (mL M2 a4)) <| dr ((mR M2 a4 (((mI M2 x0 3) - (1 : Int32))).toNatClampNeg)) fun a8 => ck (mT M2 a8 = 1) <| bd (f_X1_copyFrom M2 a8 ((mR M2 x0 15))) fun _ M7 => some ((mR M2 a4 (((mI M2 x0 3) - (1 : Int32))).toNatClampNeg), M7)
noncomputable def f_X7_nextFisher (M : gMem) (x0 : Nat) : Option (Option Nat × gMem) :=
  b_X7_nextFisher_0 M x0
set_option maxHeartbeats 4000000 in
set_option maxRecDepth 100000 in
theorem t_X7_nextFisher_0 (X : gX p s m args meth c D cy B (gSt Z B H0) RX7 cX7_nextFisher wsX7_nextFisher 2) (hr : meth.sig.returnType = (some (.object "TideLots$Fisher"))) {Q : State → Prop} : ∀ (M : gMem) (x0 : Nat) (z : Option Nat × gMem), b_X7_nextFisher_0 M x0 = some z → (fun (r : Option Nat × gMem) => Q = gMQ below D cy B H0 args s 0 0 (some (vR r.1)) r.2) z → gGo p l e rX7_nextFisher s m args below meth c D cy B H0 2 0 0 Q 0 [(0, vR (some x0))] [] M := by
  intro M x0 z hf hK
  unfold b_X7_nextFisher_0 at hf
  refine g_aload_n X dX7_nextFisher_0 rfl rfl ?_
  refine g_aload_n X dX7_nextFisher_1 rfl rfl ?_
  obtain ⟨hT1, hf⟩ := ck_e hf
  refine g_get (ci := 6) (v := vI (mI M x0 3)) 3 X cdX7 i_X7_nextFisher_X7 (by decide) k_X7_nextFisher_f75 rfl dX7_nextFisher_2 rfl hT1 rfl ?_
  refine g_iconst (v := (1 : Int32)) X dX7_nextFisher_5 (by decide) ?_
  refine g_iadd X dX7_nextFisher_6 ?_
  refine g_bipush (v := (8 : Int32)) X dX7_nextFisher_7 (by decide) ?_
  refine g_min X k_X7_nextFisher_m87 k_X7_nextFisher_mmins k_X7_nextFisher_mi k_X7_nextFisher_mminc (Nat.le_of_ble_eq_true rfl) (Nat.le_of_ble_eq_true rfl) ⟨by decide, by decide⟩ dX7_nextFisher_9 ?_
  refine g_putI (ci := 6) 3 X cdX7 i_X7_nextFisher_X7 (by decide) k_X7_nextFisher_f75 rfl dX7_nextFisher_12 rfl hT1 (Or.inl rfl) rfl rfl rfl ?_
  obtain ⟨M2, hM2, hf⟩ := lw_e hf
  rw [← hM2]
  have hT3 : mT M2 x0 = 7 := by rw [hM2]; exact hT1
  refine g_aload_n X dX7_nextFisher_15 rfl rfl ?_
  refine g_get (ci := 6) (v := vR (mR M2 x0 7)) 7 X cdX7 i_X7_nextFisher_X7 (by decide) k_X7_nextFisher_f23 rfl dX7_nextFisher_16 rfl hT3 rfl ?_
  refine g_aload_n X dX7_nextFisher_19 rfl rfl ?_
  refine g_get (ci := 6) (v := vI (mI M2 x0 3)) 3 X cdX7 i_X7_nextFisher_X7 (by decide) k_X7_nextFisher_f75 rfl dX7_nextFisher_20 rfl hT3 rfl ?_
  refine g_iconst (v := (1 : Int32)) X dX7_nextFisher_23 (by decide) ?_
  refine g_isub X dX7_nextFisher_24 ?_
  obtain ⟨a4, ha4, hf⟩ := dr_e hf
  obtain ⟨hT5, hf⟩ := ck_e hf
  obtain ⟨hg6, hf⟩ := ck_e hf
  refine g_aald (t0 := 4) X dX7_nextFisher_25 ha4 hT5 (by decide) rfl hg6 ?_
  refine g_astore_n (lv' := [(1, vR (mR M2 a4 (((mI M2 x0 3) - (1 : Int32))).toNatClampNeg)), (0, vR (some x0))]) X dX7_nextFisher_26 rfl (by decide) rfl ?_
  refine g_aload_n X dX7_nextFisher_27 rfl rfl ?_
  refine g_aload_n X dX7_nextFisher_28 rfl rfl ?_
  refine g_get (ci := 6) (v := vR (mR M2 x0 15)) 15 X cdX7 i_X7_nextFisher_X7 (by decide) k_X7_nextFisher_f62 rfl dX7_nextFisher_29 rfl hT3 rfl ?_
  obtain ⟨a8, ha8, hf⟩ := dr_e hf
  obtain ⟨hT9, hf⟩ := ck_e hf
  obtain ⟨r7, M7, hq7, hf⟩ := bd_e hf
  refine g_callV (ci := 0) (b := a8) (As := [vR (mR M2 x0 15)]) (st := []) (v := none) (M1 := M7) X (m_X1_copyFrom l hq7) (cwV 1 X.2.2.1 gX7_nextFisher_X1_copyFrom rfl rfl rfl (by decide +kernel) ⟨Nat.le_of_ble_eq_true rfl, Nat.le_of_ble_eq_true rfl⟩) rfl rfl ha8 hT9 (by decide) rfl (Nat.le_of_ble_eq_true rfl) dX7_nextFisher_32 ⟨by decide, by decide⟩ ?_
  refine g_aload_n X dX7_nextFisher_35 rfl rfl ?_
  cases hf
  refine g_eqQ hK ?_
  exact g_aret X hr (Or.inl ⟨_, rfl⟩) dX7_nextFisher_36
set_option maxHeartbeats 4000000 in
set_option maxRecDepth 100000 in
theorem m_X7_nextFisher (l : Launch) {D : va_G} {cy : Nat → ClassId} {B : Nat} {H0 : Heap} {Z : Nat → Nat} {M M1 : gMem} {x0 : Nat} {r : Option Nat} (hf : f_X7_nextFisher M x0 = some (r, M1)) : Met l yX7_nextFisher wsX7_nextFisher rX7_nextFisher (va_Pc (Value.ref x0 :: List.map gv []) (gPre D cy B H0 (gSt Z B H0) M)) (gQ D cy B H0 (some (vR r)) M1) 0 0 (gA B) := by
  refine Met.ofW (cc := cX7_nextFisher) (maxL := 2) (ret := (some (.object "TideLots$Fisher"))) (by decide) rfl ?_
  intro p e s m args below meth c s₁ Bd hml hv
  obtain ⟨rfl, hW, hKK, hFs⟩ := hv
  have X : gX p s m _ meth c D cy B (gSt Z B H0) RX7 cX7_nextFisher wsX7_nextFisher 2 := ⟨Bd.exec, Bd.bytes, atoms_spec (ws := wsX7_nextFisher) Bd.pre, findClass_of_methodNamed Bd.named, hml, hKK, by rw [hW.1]; exact hW.2.1, Bd.notSynchronized, hFs⟩
  have hr := Bd.returns
  have hl := lv_entry ([.ref x0]) (n := 2) (Nat.le_of_ble_eq_true rfl)
  show W p l e rX7_nextFisher s m _ below meth c s.heap [] 0 0 _ (entryFrame m ([.ref x0] : List Value).toArray 2)
  rw [lg_entry_eq]
  generalize (lg_sl ([.ref x0]) ++ List.replicate (2 - (lg_sl ([.ref x0])).length) Slot.unset).toArray = ls at hl ⊢
  have hl : lv_has ls 2 (List.map gq [(0, vR (some x0))]) := hl
  exact t_X7_nextFisher_0 X hr _ _ _ hf rfl s.heap [] ls hW va_S.rf (lv_has_sub hl (lvsub_of _ _ [0] rfl))
/-! ## TideLots$Shore.nextGo()LTideLots$Go; -/
theorem dX7_nextGo_0 : decode cX7_nextGo 0 = .ok (.aload_n 0, 1) := by decide +kernel
theorem dX7_nextGo_1 : decode cX7_nextGo 1 = .ok (.aload_n 0, 1) := by decide +kernel
theorem dX7_nextGo_2 : decode cX7_nextGo 2 = .ok (.getfield 78, 3) := by decide +kernel
theorem dX7_nextGo_5 : decode cX7_nextGo 5 = .ok (.iconst 1, 1) := by decide +kernel
theorem dX7_nextGo_6 : decode cX7_nextGo 6 = .ok (.iadd, 1) := by decide +kernel
theorem dX7_nextGo_7 : decode cX7_nextGo 7 = .ok (.bipush 24, 2) := by decide +kernel
theorem dX7_nextGo_9 : decode cX7_nextGo 9 = .ok (.invokestatic 87, 3) := by decide +kernel
theorem dX7_nextGo_12 : decode cX7_nextGo 12 = .ok (.putfield 78, 3) := by decide +kernel
theorem dX7_nextGo_15 : decode cX7_nextGo 15 = .ok (.aload_n 0, 1) := by decide +kernel
theorem dX7_nextGo_16 : decode cX7_nextGo 16 = .ok (.getfield 29, 3) := by decide +kernel
theorem dX7_nextGo_19 : decode cX7_nextGo 19 = .ok (.aload_n 0, 1) := by decide +kernel
theorem dX7_nextGo_20 : decode cX7_nextGo 20 = .ok (.getfield 78, 3) := by decide +kernel
theorem dX7_nextGo_23 : decode cX7_nextGo 23 = .ok (.iconst 1, 1) := by decide +kernel
theorem dX7_nextGo_24 : decode cX7_nextGo 24 = .ok (.isub, 1) := by decide +kernel
theorem dX7_nextGo_25 : decode cX7_nextGo 25 = .ok (.aaload, 1) := by decide +kernel
theorem dX7_nextGo_26 : decode cX7_nextGo 26 = .ok (.areturn, 1) := by decide +kernel
theorem k_X7_nextGo_f78 : Cond.fieldLink RX7 78 "TideLots$Shore" "goCount" "I" ∈ wsX7_nextGo := by decide +kernel
theorem i_X7_nextGo_X7 : ∀ w ∈ u_ws RX7 TX7 17, w ∈ wsX7_nextGo := by decide +kernel
theorem k_X7_nextGo_m87 : Cond.methodLink RX7 87 Lib.Math.min.name ∈ wsX7_nextGo := by decide +kernel
theorem k_X7_nextGo_mmins : Cond.static Lib.Math.min.name ∈ wsX7_nextGo := by decide +kernel
theorem k_X7_nextGo_mi : Cond.initialized "java/lang/Math" ∈ wsX7_nextGo := by decide +kernel
theorem k_X7_nextGo_mminc : Cond.code Lib.Math.min.name Lib.Math.min.code 2 (some .int) ∈ wsX7_nextGo := by decide +kernel
theorem k_X7_nextGo_f29 : Cond.fieldLink RX7 29 "TideLots$Shore" "goes" "[LTideLots$Go;" ∈ wsX7_nextGo := by decide +kernel
abbrev rX7_nextGo : Room := { frames := 1, cells := 0, slots := 0, locals := 14 }
noncomputable def b_X7_nextGo_0 (M : gMem) (x0 : Nat) : Option (Option Nat × gMem) :=
  ck (mT M x0 = 7) <| lw (wI M x0 4 ((imin (((mI M x0 4) + (1 : Int32))) ((24 : Int32))))) fun M2 => dr ((mR M2 x0 8)) fun a4 => ck (mT M2 a4 = 25) <| ck (inb ((mI M2 x0 4) - (1 : Int32)) (mL M2 a4)) <| some ((mR M2 a4 (((mI M2 x0 4) - (1 : Int32))).toNatClampNeg), M2)
noncomputable def f_X7_nextGo (M : gMem) (x0 : Nat) : Option (Option Nat × gMem) :=
  b_X7_nextGo_0 M x0
set_option maxHeartbeats 4000000 in
set_option maxRecDepth 100000 in
theorem t_X7_nextGo_0 (X : gX p s m args meth c D cy B (gSt Z B H0) RX7 cX7_nextGo wsX7_nextGo 1) (hr : meth.sig.returnType = (some (.object "TideLots$Go"))) {Q : State → Prop} : ∀ (M : gMem) (x0 : Nat) (z : Option Nat × gMem), b_X7_nextGo_0 M x0 = some z → (fun (r : Option Nat × gMem) => Q = gMQ below D cy B H0 args s 0 0 (some (vR r.1)) r.2) z → gGo p l e rX7_nextGo s m args below meth c D cy B H0 1 0 0 Q 0 [(0, vR (some x0))] [] M := by
  intro M x0 z hf hK
  unfold b_X7_nextGo_0 at hf
  refine g_aload_n X dX7_nextGo_0 rfl rfl ?_
  refine g_aload_n X dX7_nextGo_1 rfl rfl ?_
  obtain ⟨hT1, hf⟩ := ck_e hf
  refine g_get (ci := 6) (v := vI (mI M x0 4)) 4 X cdX7 i_X7_nextGo_X7 (by decide) k_X7_nextGo_f78 rfl dX7_nextGo_2 rfl hT1 rfl ?_
  refine g_iconst (v := (1 : Int32)) X dX7_nextGo_5 (by decide) ?_
  refine g_iadd X dX7_nextGo_6 ?_
  refine g_bipush (v := (24 : Int32)) X dX7_nextGo_7 (by decide) ?_
  refine g_min X k_X7_nextGo_m87 k_X7_nextGo_mmins k_X7_nextGo_mi k_X7_nextGo_mminc (Nat.le_of_ble_eq_true rfl) (Nat.le_of_ble_eq_true rfl) ⟨by decide, by decide⟩ dX7_nextGo_9 ?_
  refine g_putI (ci := 6) 4 X cdX7 i_X7_nextGo_X7 (by decide) k_X7_nextGo_f78 rfl dX7_nextGo_12 rfl hT1 (Or.inl rfl) rfl rfl rfl ?_
  obtain ⟨M2, hM2, hf⟩ := lw_e hf
  rw [← hM2]
  have hT3 : mT M2 x0 = 7 := by rw [hM2]; exact hT1
  refine g_aload_n X dX7_nextGo_15 rfl rfl ?_
  refine g_get (ci := 6) (v := vR (mR M2 x0 8)) 8 X cdX7 i_X7_nextGo_X7 (by decide) k_X7_nextGo_f29 rfl dX7_nextGo_16 rfl hT3 rfl ?_
  refine g_aload_n X dX7_nextGo_19 rfl rfl ?_
  refine g_get (ci := 6) (v := vI (mI M2 x0 4)) 4 X cdX7 i_X7_nextGo_X7 (by decide) k_X7_nextGo_f78 rfl dX7_nextGo_20 rfl hT3 rfl ?_
  refine g_iconst (v := (1 : Int32)) X dX7_nextGo_23 (by decide) ?_
  refine g_isub X dX7_nextGo_24 ?_
  obtain ⟨a4, ha4, hf⟩ := dr_e hf
  obtain ⟨hT5, hf⟩ := ck_e hf
  obtain ⟨hg6, hf⟩ := ck_e hf
  refine g_aald (t0 := 5) X dX7_nextGo_25 ha4 hT5 (by decide) rfl hg6 ?_
  cases hf
  refine g_eqQ hK ?_
  exact g_aret X hr (Or.inl ⟨_, rfl⟩) dX7_nextGo_26
set_option maxHeartbeats 4000000 in
set_option maxRecDepth 100000 in
theorem m_X7_nextGo (l : Launch) {D : va_G} {cy : Nat → ClassId} {B : Nat} {H0 : Heap} {Z : Nat → Nat} {M M1 : gMem} {x0 : Nat} {r : Option Nat} (hf : f_X7_nextGo M x0 = some (r, M1)) : Met l yX7_nextGo wsX7_nextGo rX7_nextGo (va_Pc (Value.ref x0 :: List.map gv []) (gPre D cy B H0 (gSt Z B H0) M)) (gQ D cy B H0 (some (vR r)) M1) 0 0 (gA B) := by
  refine Met.ofW (cc := cX7_nextGo) (maxL := 1) (ret := (some (.object "TideLots$Go"))) (by decide) rfl ?_
  intro p e s m args below meth c s₁ Bd hml hv
  obtain ⟨rfl, hW, hKK, hFs⟩ := hv
  have X : gX p s m _ meth c D cy B (gSt Z B H0) RX7 cX7_nextGo wsX7_nextGo 1 := ⟨Bd.exec, Bd.bytes, atoms_spec (ws := wsX7_nextGo) Bd.pre, findClass_of_methodNamed Bd.named, hml, hKK, by rw [hW.1]; exact hW.2.1, Bd.notSynchronized, hFs⟩
  have hr := Bd.returns
  have hl := lv_entry ([.ref x0]) (n := 1) (Nat.le_of_ble_eq_true rfl)
  show W p l e rX7_nextGo s m _ below meth c s.heap [] 0 0 _ (entryFrame m ([.ref x0] : List Value).toArray 1)
  rw [lg_entry_eq]
  generalize (lg_sl ([.ref x0]) ++ List.replicate (1 - (lg_sl ([.ref x0])).length) Slot.unset).toArray = ls at hl ⊢
  have hl : lv_has ls 1 (List.map gq [(0, vR (some x0))]) := hl
  exact t_X7_nextGo_0 X hr _ _ _ hf rfl s.heap [] ls hW va_S.rf (lv_has_sub hl (lvsub_of _ _ [0] rfl))
/-! ## TideLots$Shore.nextPact()LTideLots$Pact; -/
theorem dX7_nextPact_0 : decode cX7_nextPact 0 = .ok (.aload_n 0, 1) := by decide +kernel
theorem dX7_nextPact_1 : decode cX7_nextPact 1 = .ok (.aload_n 0, 1) := by decide +kernel
theorem dX7_nextPact_2 : decode cX7_nextPact 2 = .ok (.getfield 81, 3) := by decide +kernel
theorem dX7_nextPact_5 : decode cX7_nextPact 5 = .ok (.iconst 1, 1) := by decide +kernel
theorem dX7_nextPact_6 : decode cX7_nextPact 6 = .ok (.iadd, 1) := by decide +kernel
theorem dX7_nextPact_7 : decode cX7_nextPact 7 = .ok (.bipush 6, 2) := by decide +kernel
theorem dX7_nextPact_9 : decode cX7_nextPact 9 = .ok (.invokestatic 87, 3) := by decide +kernel
theorem dX7_nextPact_12 : decode cX7_nextPact 12 = .ok (.putfield 81, 3) := by decide +kernel
theorem dX7_nextPact_15 : decode cX7_nextPact 15 = .ok (.aload_n 0, 1) := by decide +kernel
theorem dX7_nextPact_16 : decode cX7_nextPact 16 = .ok (.getfield 35, 3) := by decide +kernel
theorem dX7_nextPact_19 : decode cX7_nextPact 19 = .ok (.aload_n 0, 1) := by decide +kernel
theorem dX7_nextPact_20 : decode cX7_nextPact 20 = .ok (.getfield 81, 3) := by decide +kernel
theorem dX7_nextPact_23 : decode cX7_nextPact 23 = .ok (.iconst 1, 1) := by decide +kernel
theorem dX7_nextPact_24 : decode cX7_nextPact 24 = .ok (.isub, 1) := by decide +kernel
theorem dX7_nextPact_25 : decode cX7_nextPact 25 = .ok (.aaload, 1) := by decide +kernel
theorem dX7_nextPact_26 : decode cX7_nextPact 26 = .ok (.astore_n 1, 1) := by decide +kernel
theorem dX7_nextPact_27 : decode cX7_nextPact 27 = .ok (.aload_n 1, 1) := by decide +kernel
theorem dX7_nextPact_28 : decode cX7_nextPact 28 = .ok (.aload_n 0, 1) := by decide +kernel
theorem dX7_nextPact_29 : decode cX7_nextPact 29 = .ok (.getfield 67, 3) := by decide +kernel
theorem dX7_nextPact_32 : decode cX7_nextPact 32 = .ok (.invokevirtual 100, 3) := by decide +kernel
theorem dX7_nextPact_35 : decode cX7_nextPact 35 = .ok (.aload_n 1, 1) := by decide +kernel
theorem dX7_nextPact_36 : decode cX7_nextPact 36 = .ok (.areturn, 1) := by decide +kernel
set_option maxRecDepth 20000 in
theorem ggX7_nextPact_X5_copyFrom : GoodIn wsX7_nextPact wsX5_copyFrom := goodIn_r _ [12, 13, 14, 15, 16, 17, 18, 19, 20, 38, 39, 40, 41, 42, 43, 44, 45] (by decide +kernel) (by decide +kernel)
set_option maxRecDepth 20000 in
theorem gX7_nextPact_X5_copyFrom : GoodIn wsX7_nextPact (wsV RX7 100 RX5 yX5_copyFrom wsX5_copyFrom) := goodIn_app (goodIn_of _ (by decide +kernel)) ggX7_nextPact_X5_copyFrom
theorem k_X7_nextPact_f81 : Cond.fieldLink RX7 81 "TideLots$Shore" "pactCount" "I" ∈ wsX7_nextPact := by decide +kernel
theorem i_X7_nextPact_X7 : ∀ w ∈ u_ws RX7 TX7 17, w ∈ wsX7_nextPact := by decide +kernel
theorem k_X7_nextPact_m87 : Cond.methodLink RX7 87 Lib.Math.min.name ∈ wsX7_nextPact := by decide +kernel
theorem k_X7_nextPact_mmins : Cond.static Lib.Math.min.name ∈ wsX7_nextPact := by decide +kernel
theorem k_X7_nextPact_mi : Cond.initialized "java/lang/Math" ∈ wsX7_nextPact := by decide +kernel
theorem k_X7_nextPact_mminc : Cond.code Lib.Math.min.name Lib.Math.min.code 2 (some .int) ∈ wsX7_nextPact := by decide +kernel
theorem k_X7_nextPact_f35 : Cond.fieldLink RX7 35 "TideLots$Shore" "pacts" "[LTideLots$Pact;" ∈ wsX7_nextPact := by decide +kernel
theorem k_X7_nextPact_f67 : Cond.fieldLink RX7 67 "TideLots$Shore" "newPact" "LTideLots$Pact;" ∈ wsX7_nextPact := by decide +kernel
abbrev rX7_nextPact : Room := { frames := 1, cells := 0, slots := 0, locals := 22 }
noncomputable def b_X7_nextPact_0 (M : gMem) (x0 : Nat) : Option (Option Nat × gMem) :=
  ck (mT M x0 = 7) <| lw (wI M x0 5 ((imin (((mI M x0 5) + (1 : Int32))) ((6 : Int32))))) fun M2 => dr ((mR M2 x0 9)) fun a4 => ck (mT M2 a4 = 26) <| ck (inb ((mI M2 x0 5) - (1 : Int32)) (mL M2 a4)) <| dr ((mR M2 a4 (((mI M2 x0 5) - (1 : Int32))).toNatClampNeg)) fun a8 => ck (mT M2 a8 = 5) <| bd (f_X5_copyFrom M2 a8 ((mR M2 x0 16))) fun _ M7 => some ((mR M2 a4 (((mI M2 x0 5) - (1 : Int32))).toNatClampNeg), M7)
noncomputable def f_X7_nextPact (M : gMem) (x0 : Nat) : Option (Option Nat × gMem) :=
  b_X7_nextPact_0 M x0
set_option maxHeartbeats 4000000 in
set_option maxRecDepth 100000 in
theorem t_X7_nextPact_0 (X : gX p s m args meth c D cy B (gSt Z B H0) RX7 cX7_nextPact wsX7_nextPact 2) (hr : meth.sig.returnType = (some (.object "TideLots$Pact"))) {Q : State → Prop} : ∀ (M : gMem) (x0 : Nat) (z : Option Nat × gMem), b_X7_nextPact_0 M x0 = some z → (fun (r : Option Nat × gMem) => Q = gMQ below D cy B H0 args s 0 0 (some (vR r.1)) r.2) z → gGo p l e rX7_nextPact s m args below meth c D cy B H0 2 0 0 Q 0 [(0, vR (some x0))] [] M := by
  intro M x0 z hf hK
  unfold b_X7_nextPact_0 at hf
  refine g_aload_n X dX7_nextPact_0 rfl rfl ?_
  refine g_aload_n X dX7_nextPact_1 rfl rfl ?_
  obtain ⟨hT1, hf⟩ := ck_e hf
  refine g_get (ci := 6) (v := vI (mI M x0 5)) 5 X cdX7 i_X7_nextPact_X7 (by decide) k_X7_nextPact_f81 rfl dX7_nextPact_2 rfl hT1 rfl ?_
  refine g_iconst (v := (1 : Int32)) X dX7_nextPact_5 (by decide) ?_
  refine g_iadd X dX7_nextPact_6 ?_
  refine g_bipush (v := (6 : Int32)) X dX7_nextPact_7 (by decide) ?_
  refine g_min X k_X7_nextPact_m87 k_X7_nextPact_mmins k_X7_nextPact_mi k_X7_nextPact_mminc (Nat.le_of_ble_eq_true rfl) (Nat.le_of_ble_eq_true rfl) ⟨by decide, by decide⟩ dX7_nextPact_9 ?_
  refine g_putI (ci := 6) 5 X cdX7 i_X7_nextPact_X7 (by decide) k_X7_nextPact_f81 rfl dX7_nextPact_12 rfl hT1 (Or.inl rfl) rfl rfl rfl ?_
  obtain ⟨M2, hM2, hf⟩ := lw_e hf
  rw [← hM2]
  have hT3 : mT M2 x0 = 7 := by rw [hM2]; exact hT1
  refine g_aload_n X dX7_nextPact_15 rfl rfl ?_
  refine g_get (ci := 6) (v := vR (mR M2 x0 9)) 9 X cdX7 i_X7_nextPact_X7 (by decide) k_X7_nextPact_f35 rfl dX7_nextPact_16 rfl hT3 rfl ?_
  refine g_aload_n X dX7_nextPact_19 rfl rfl ?_
  refine g_get (ci := 6) (v := vI (mI M2 x0 5)) 5 X cdX7 i_X7_nextPact_X7 (by decide) k_X7_nextPact_f81 rfl dX7_nextPact_20 rfl hT3 rfl ?_
  refine g_iconst (v := (1 : Int32)) X dX7_nextPact_23 (by decide) ?_
  refine g_isub X dX7_nextPact_24 ?_
  obtain ⟨a4, ha4, hf⟩ := dr_e hf
  obtain ⟨hT5, hf⟩ := ck_e hf
  obtain ⟨hg6, hf⟩ := ck_e hf
  refine g_aald (t0 := 6) X dX7_nextPact_25 ha4 hT5 (by decide) rfl hg6 ?_
  refine g_astore_n (lv' := [(1, vR (mR M2 a4 (((mI M2 x0 5) - (1 : Int32))).toNatClampNeg)), (0, vR (some x0))]) X dX7_nextPact_26 rfl (by decide) rfl ?_
  refine g_aload_n X dX7_nextPact_27 rfl rfl ?_
  refine g_aload_n X dX7_nextPact_28 rfl rfl ?_
  refine g_get (ci := 6) (v := vR (mR M2 x0 16)) 16 X cdX7 i_X7_nextPact_X7 (by decide) k_X7_nextPact_f67 rfl dX7_nextPact_29 rfl hT3 rfl ?_
  obtain ⟨a8, ha8, hf⟩ := dr_e hf
  obtain ⟨hT9, hf⟩ := ck_e hf
  obtain ⟨r7, M7, hq7, hf⟩ := bd_e hf
  refine g_callV (ci := 4) (b := a8) (As := [vR (mR M2 x0 16)]) (st := []) (v := none) (M1 := M7) X (m_X5_copyFrom l hq7) (cwV 1 X.2.2.1 gX7_nextPact_X5_copyFrom rfl rfl rfl (by decide +kernel) ⟨Nat.le_of_ble_eq_true rfl, Nat.le_of_ble_eq_true rfl⟩) rfl rfl ha8 hT9 (by decide) rfl (Nat.le_of_ble_eq_true rfl) dX7_nextPact_32 ⟨by decide, by decide⟩ ?_
  refine g_aload_n X dX7_nextPact_35 rfl rfl ?_
  cases hf
  refine g_eqQ hK ?_
  exact g_aret X hr (Or.inl ⟨_, rfl⟩) dX7_nextPact_36
set_option maxHeartbeats 4000000 in
set_option maxRecDepth 100000 in
theorem m_X7_nextPact (l : Launch) {D : va_G} {cy : Nat → ClassId} {B : Nat} {H0 : Heap} {Z : Nat → Nat} {M M1 : gMem} {x0 : Nat} {r : Option Nat} (hf : f_X7_nextPact M x0 = some (r, M1)) : Met l yX7_nextPact wsX7_nextPact rX7_nextPact (va_Pc (Value.ref x0 :: List.map gv []) (gPre D cy B H0 (gSt Z B H0) M)) (gQ D cy B H0 (some (vR r)) M1) 0 0 (gA B) := by
  refine Met.ofW (cc := cX7_nextPact) (maxL := 2) (ret := (some (.object "TideLots$Pact"))) (by decide) rfl ?_
  intro p e s m args below meth c s₁ Bd hml hv
  obtain ⟨rfl, hW, hKK, hFs⟩ := hv
  have X : gX p s m _ meth c D cy B (gSt Z B H0) RX7 cX7_nextPact wsX7_nextPact 2 := ⟨Bd.exec, Bd.bytes, atoms_spec (ws := wsX7_nextPact) Bd.pre, findClass_of_methodNamed Bd.named, hml, hKK, by rw [hW.1]; exact hW.2.1, Bd.notSynchronized, hFs⟩
  have hr := Bd.returns
  have hl := lv_entry ([.ref x0]) (n := 2) (Nat.le_of_ble_eq_true rfl)
  show W p l e rX7_nextPact s m _ below meth c s.heap [] 0 0 _ (entryFrame m ([.ref x0] : List Value).toArray 2)
  rw [lg_entry_eq]
  generalize (lg_sl ([.ref x0]) ++ List.replicate (2 - (lg_sl ([.ref x0])).length) Slot.unset).toArray = ls at hl ⊢
  have hl : lv_has ls 2 (List.map gq [(0, vR (some x0))]) := hl
  exact t_X7_nextPact_0 X hr _ _ _ hf rfl s.heap [] ls hW va_S.rf (lv_has_sub hl (lvsub_of _ _ [0] rfl))
end
