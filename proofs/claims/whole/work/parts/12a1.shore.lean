section
variable {p : Program} {l : Launch} {e : Env} {s : State} {m : MethodId} {args : Array Value} {below : List Frame} {meth : Method} {c : Code} {D : va_G} {cy : Nat → ClassId} {B : Nat} {H0 : Heap} {Z : Nat → Nat}
/-! ## TideLots$Shore.forget()V -/
theorem dX7_forget_0 : decode cX7_forget 0 = .ok (.aload_n 0, 1) := by decide +kernel
theorem dX7_forget_1 : decode cX7_forget 1 = .ok (.iconst 0, 1) := by decide +kernel
theorem dX7_forget_2 : decode cX7_forget 2 = .ok (.putfield 72, 3) := by decide +kernel
theorem dX7_forget_5 : decode cX7_forget 5 = .ok (.aload_n 0, 1) := by decide +kernel
theorem dX7_forget_6 : decode cX7_forget 6 = .ok (.iconst 0, 1) := by decide +kernel
theorem dX7_forget_7 : decode cX7_forget 7 = .ok (.putfield 75, 3) := by decide +kernel
theorem dX7_forget_10 : decode cX7_forget 10 = .ok (.aload_n 0, 1) := by decide +kernel
theorem dX7_forget_11 : decode cX7_forget 11 = .ok (.iconst 0, 1) := by decide +kernel
theorem dX7_forget_12 : decode cX7_forget 12 = .ok (.putfield 78, 3) := by decide +kernel
theorem dX7_forget_15 : decode cX7_forget 15 = .ok (.aload_n 0, 1) := by decide +kernel
theorem dX7_forget_16 : decode cX7_forget 16 = .ok (.iconst 0, 1) := by decide +kernel
theorem dX7_forget_17 : decode cX7_forget 17 = .ok (.putfield 81, 3) := by decide +kernel
theorem dX7_forget_20 : decode cX7_forget 20 = .ok (.aload_n 0, 1) := by decide +kernel
theorem dX7_forget_21 : decode cX7_forget 21 = .ok (.getfield 42, 3) := by decide +kernel
theorem dX7_forget_24 : decode cX7_forget 24 = .ok (.iconst 0, 1) := by decide +kernel
theorem dX7_forget_25 : decode cX7_forget 25 = .ok (.putfield 84, 3) := by decide +kernel
theorem dX7_forget_28 : decode cX7_forget 28 = .ok (.return_, 1) := by decide +kernel
theorem k_X7_forget_f72 : Cond.fieldLink RX7 72 "TideLots$Shore" "groundCount" "I" ∈ wsX7_forget := by decide +kernel
theorem i_X7_forget_X7 : ∀ w ∈ u_ws RX7 TX7 17, w ∈ wsX7_forget := by decide +kernel
theorem k_X7_forget_f75 : Cond.fieldLink RX7 75 "TideLots$Shore" "fisherCount" "I" ∈ wsX7_forget := by decide +kernel
theorem k_X7_forget_f78 : Cond.fieldLink RX7 78 "TideLots$Shore" "goCount" "I" ∈ wsX7_forget := by decide +kernel
theorem k_X7_forget_f81 : Cond.fieldLink RX7 81 "TideLots$Shore" "pactCount" "I" ∈ wsX7_forget := by decide +kernel
theorem k_X7_forget_f42 : Cond.fieldLink RX7 42 "TideLots$Shore" "sums" "LTideLots$Sums;" ∈ wsX7_forget := by decide +kernel
theorem k_X7_forget_f84 : Cond.fieldLink RX7 84 "TideLots$Sums" "length" "I" ∈ wsX7_forget := by decide +kernel
theorem i_X7_forget_X9 : ∀ w ∈ u_ws RX9 TX9 4, w ∈ wsX7_forget := by decide +kernel
abbrev rX7_forget : Room := { frames := 0, cells := 0, slots := 0, locals := 0 }
noncomputable def b_X7_forget_0 (M : gMem) (x0 : Nat) : Option (Unit × gMem) :=
  ck (mT M x0 = 7) <| lw (wI M x0 2 ((0 : Int32))) fun M2 => lw (wI M2 x0 3 ((0 : Int32))) fun M4 => lw (wI M4 x0 4 ((0 : Int32))) fun M6 => lw (wI M6 x0 5 ((0 : Int32))) fun M8 => dr ((mR M8 x0 10)) fun a10 => ck (mT M8 a10 = 8) <| lw (wI M8 a10 0 ((0 : Int32))) fun M12 => some ((), M12)
noncomputable def f_X7_forget (M : gMem) (x0 : Nat) : Option (Unit × gMem) :=
  b_X7_forget_0 M x0
set_option maxHeartbeats 4000000 in
set_option maxRecDepth 100000 in
theorem t_X7_forget_0 (X : gX p s m args meth c D cy B (gSt Z B H0) RX7 cX7_forget wsX7_forget 1) (hr : meth.sig.returnType = none) {Q : State → Prop} : ∀ (M : gMem) (x0 : Nat) (z : Unit × gMem), b_X7_forget_0 M x0 = some z → (fun (r : Unit × gMem) => Q = gMQ below D cy B H0 args s 0 0 none r.2) z → gGo p l e rX7_forget s m args below meth c D cy B H0 1 0 0 Q 0 [(0, vR (some x0))] [] M := by
  intro M x0 z hf hK
  unfold b_X7_forget_0 at hf
  refine g_aload_n X dX7_forget_0 rfl rfl ?_
  refine g_iconst (v := (0 : Int32)) X dX7_forget_1 (by decide) ?_
  obtain ⟨hT1, hf⟩ := ck_e hf
  refine g_putI (ci := 6) 2 X cdX7 i_X7_forget_X7 (by decide) k_X7_forget_f72 rfl dX7_forget_2 rfl hT1 (Or.inl rfl) rfl rfl rfl ?_
  obtain ⟨M2, hM2, hf⟩ := lw_e hf
  rw [← hM2]
  have hT3 : mT M2 x0 = 7 := by rw [hM2]; exact hT1
  refine g_aload_n X dX7_forget_5 rfl rfl ?_
  refine g_iconst (v := (0 : Int32)) X dX7_forget_6 (by decide) ?_
  refine g_putI (ci := 6) 3 X cdX7 i_X7_forget_X7 (by decide) k_X7_forget_f75 rfl dX7_forget_7 rfl hT3 (Or.inl rfl) rfl rfl rfl ?_
  obtain ⟨M4, hM4, hf⟩ := lw_e hf
  rw [← hM4]
  have hT5 : mT M4 x0 = 7 := by rw [hM4]; exact hT3
  refine g_aload_n X dX7_forget_10 rfl rfl ?_
  refine g_iconst (v := (0 : Int32)) X dX7_forget_11 (by decide) ?_
  refine g_putI (ci := 6) 4 X cdX7 i_X7_forget_X7 (by decide) k_X7_forget_f78 rfl dX7_forget_12 rfl hT5 (Or.inl rfl) rfl rfl rfl ?_
  obtain ⟨M6, hM6, hf⟩ := lw_e hf
  rw [← hM6]
  have hT7 : mT M6 x0 = 7 := by rw [hM6]; exact hT5
  refine g_aload_n X dX7_forget_15 rfl rfl ?_
  refine g_iconst (v := (0 : Int32)) X dX7_forget_16 (by decide) ?_
  refine g_putI (ci := 6) 5 X cdX7 i_X7_forget_X7 (by decide) k_X7_forget_f81 rfl dX7_forget_17 rfl hT7 (Or.inl rfl) rfl rfl rfl ?_
  obtain ⟨M8, hM8, hf⟩ := lw_e hf
  rw [← hM8]
  have hT9 : mT M8 x0 = 7 := by rw [hM8]; exact hT7
  refine g_aload_n X dX7_forget_20 rfl rfl ?_
  refine g_get (ci := 6) (v := vR (mR M8 x0 10)) 10 X cdX7 i_X7_forget_X7 (by decide) k_X7_forget_f42 rfl dX7_forget_21 rfl hT9 rfl ?_
  refine g_iconst (v := (0 : Int32)) X dX7_forget_24 (by decide) ?_
  obtain ⟨a10, ha10, hf⟩ := dr_e hf
  obtain ⟨hT11, hf⟩ := ck_e hf
  refine g_putI (ci := 7) 0 X cdX9 i_X7_forget_X9 (by decide) k_X7_forget_f84 rfl dX7_forget_25 ha10 hT11 (Or.inl rfl) rfl rfl rfl ?_
  obtain ⟨M12, hM12, hf⟩ := lw_e hf
  rw [← hM12]
  have hT13 : mT M12 x0 = 7 := by rw [hM12]; exact hT9
  have hT14 : mT M12 a10 = 8 := by rw [hM12]; exact hT11
  cases hf
  refine g_eqQ hK ?_
  exact g_vret X hr dX7_forget_28
set_option maxHeartbeats 4000000 in
set_option maxRecDepth 100000 in
theorem m_X7_forget (l : Launch) {D : va_G} {cy : Nat → ClassId} {B : Nat} {H0 : Heap} {Z : Nat → Nat} {M M1 : gMem} {x0 : Nat} {r : Unit} (hf : f_X7_forget M x0 = some (r, M1)) : Met l yX7_forget wsX7_forget rX7_forget (va_Pc (Value.ref x0 :: List.map gv []) (gPre D cy B H0 (gSt Z B H0) M)) (gQ D cy B H0 none M1) 0 0 (gA B) := by
  refine Met.ofW (cc := cX7_forget) (maxL := 1) (ret := none) (by decide) rfl ?_
  intro p e s m args below meth c s₁ Bd hml hv
  obtain ⟨rfl, hW, hKK, hFs⟩ := hv
  have X : gX p s m _ meth c D cy B (gSt Z B H0) RX7 cX7_forget wsX7_forget 1 := ⟨Bd.exec, Bd.bytes, atoms_spec (ws := wsX7_forget) Bd.pre, findClass_of_methodNamed Bd.named, hml, hKK, by rw [hW.1]; exact hW.2.1, Bd.notSynchronized, hFs⟩
  have hr := Bd.returns
  have hl := lv_entry ([.ref x0]) (n := 1) (Nat.le_of_ble_eq_true rfl)
  show W p l e rX7_forget s m _ below meth c s.heap [] 0 0 _ (entryFrame m ([.ref x0] : List Value).toArray 1)
  rw [lg_entry_eq]
  generalize (lg_sl ([.ref x0]) ++ List.replicate (1 - (lg_sl ([.ref x0])).length) Slot.unset).toArray = ls at hl ⊢
  have hl : lv_has ls 1 (List.map gq [(0, vR (some x0))]) := hl
  exact t_X7_forget_0 X hr _ _ _ hf rfl s.heap [] ls hW va_S.rf (lv_has_sub hl (lvsub_of _ _ [0] rfl))
/-! ## TideLots$Shore.nextGround()LTideLots$Ground; -/
theorem dX7_nextGround_0 : decode cX7_nextGround 0 = .ok (.aload_n 0, 1) := by decide +kernel
theorem dX7_nextGround_1 : decode cX7_nextGround 1 = .ok (.aload_n 0, 1) := by decide +kernel
theorem dX7_nextGround_2 : decode cX7_nextGround 2 = .ok (.getfield 72, 3) := by decide +kernel
theorem dX7_nextGround_5 : decode cX7_nextGround 5 = .ok (.iconst 1, 1) := by decide +kernel
theorem dX7_nextGround_6 : decode cX7_nextGround 6 = .ok (.iadd, 1) := by decide +kernel
theorem dX7_nextGround_7 : decode cX7_nextGround 7 = .ok (.bipush 8, 2) := by decide +kernel
theorem dX7_nextGround_9 : decode cX7_nextGround 9 = .ok (.invokestatic 87, 3) := by decide +kernel
theorem dX7_nextGround_12 : decode cX7_nextGround 12 = .ok (.putfield 72, 3) := by decide +kernel
theorem dX7_nextGround_15 : decode cX7_nextGround 15 = .ok (.aload_n 0, 1) := by decide +kernel
theorem dX7_nextGround_16 : decode cX7_nextGround 16 = .ok (.getfield 17, 3) := by decide +kernel
theorem dX7_nextGround_19 : decode cX7_nextGround 19 = .ok (.aload_n 0, 1) := by decide +kernel
theorem dX7_nextGround_20 : decode cX7_nextGround 20 = .ok (.getfield 72, 3) := by decide +kernel
theorem dX7_nextGround_23 : decode cX7_nextGround 23 = .ok (.iconst 1, 1) := by decide +kernel
theorem dX7_nextGround_24 : decode cX7_nextGround 24 = .ok (.isub, 1) := by decide +kernel
theorem dX7_nextGround_25 : decode cX7_nextGround 25 = .ok (.aaload, 1) := by decide +kernel
theorem dX7_nextGround_26 : decode cX7_nextGround 26 = .ok (.astore_n 1, 1) := by decide +kernel
theorem dX7_nextGround_27 : decode cX7_nextGround 27 = .ok (.aload_n 1, 1) := by decide +kernel
theorem dX7_nextGround_28 : decode cX7_nextGround 28 = .ok (.aload_n 0, 1) := by decide +kernel
theorem dX7_nextGround_29 : decode cX7_nextGround 29 = .ok (.getfield 57, 3) := by decide +kernel
theorem dX7_nextGround_32 : decode cX7_nextGround 32 = .ok (.invokevirtual 93, 3) := by decide +kernel
theorem dX7_nextGround_35 : decode cX7_nextGround 35 = .ok (.aload_n 1, 1) := by decide +kernel
theorem dX7_nextGround_36 : decode cX7_nextGround 36 = .ok (.areturn, 1) := by decide +kernel
set_option maxRecDepth 20000 in
theorem ggX7_nextGround_X3_copyFrom : GoodIn wsX7_nextGround wsX3_copyFrom := goodIn_r _ [12, 13, 14, 15, 16, 34, 35, 36, 37] (by decide +kernel) (by decide +kernel)
set_option maxRecDepth 20000 in
theorem gX7_nextGround_X3_copyFrom : GoodIn wsX7_nextGround (wsV RX7 93 RX3 yX3_copyFrom wsX3_copyFrom) := goodIn_app (goodIn_of _ (by decide +kernel)) ggX7_nextGround_X3_copyFrom
theorem k_X7_nextGround_f72 : Cond.fieldLink RX7 72 "TideLots$Shore" "groundCount" "I" ∈ wsX7_nextGround := by decide +kernel
theorem i_X7_nextGround_X7 : ∀ w ∈ u_ws RX7 TX7 17, w ∈ wsX7_nextGround := by decide +kernel
theorem k_X7_nextGround_m87 : Cond.methodLink RX7 87 Lib.Math.min.name ∈ wsX7_nextGround := by decide +kernel
theorem k_X7_nextGround_mmins : Cond.static Lib.Math.min.name ∈ wsX7_nextGround := by decide +kernel
theorem k_X7_nextGround_mi : Cond.initialized "java/lang/Math" ∈ wsX7_nextGround := by decide +kernel
theorem k_X7_nextGround_mminc : Cond.code Lib.Math.min.name Lib.Math.min.code 2 (some .int) ∈ wsX7_nextGround := by decide +kernel
theorem k_X7_nextGround_f17 : Cond.fieldLink RX7 17 "TideLots$Shore" "grounds" "[LTideLots$Ground;" ∈ wsX7_nextGround := by decide +kernel
theorem k_X7_nextGround_f57 : Cond.fieldLink RX7 57 "TideLots$Shore" "newGround" "LTideLots$Ground;" ∈ wsX7_nextGround := by decide +kernel
abbrev rX7_nextGround : Room := { frames := 1, cells := 0, slots := 0, locals := 22 }
noncomputable def b_X7_nextGround_0 (M : gMem) (x0 : Nat) : Option (Option Nat × gMem) :=
  ck (mT M x0 = 7) <| lw (wI M x0 2 ((imin (((mI M x0 2) + (1 : Int32))) ((8 : Int32))))) fun M2 => dr ((mR M2 x0 6)) fun a4 => ck (mT M2 a4 = 23) <| ck (inb ((mI M2 x0 2) - (1 : Int32)) (mL M2 a4)) <| dr ((mR M2 a4 (((mI M2 x0 2) - (1 : Int32))).toNatClampNeg)) fun a8 => ck (mT M2 a8 = 3) <| bd (f_X3_copyFrom M2 a8 ((mR M2 x0 14))) fun _ M7 => some ((mR M2 a4 (((mI M2 x0 2) - (1 : Int32))).toNatClampNeg), M7)
noncomputable def f_X7_nextGround (M : gMem) (x0 : Nat) : Option (Option Nat × gMem) :=
  b_X7_nextGround_0 M x0
set_option maxHeartbeats 4000000 in
set_option maxRecDepth 100000 in
theorem t_X7_nextGround_0 (X : gX p s m args meth c D cy B (gSt Z B H0) RX7 cX7_nextGround wsX7_nextGround 2) (hr : meth.sig.returnType = (some (.object "TideLots$Ground"))) {Q : State → Prop} : ∀ (M : gMem) (x0 : Nat) (z : Option Nat × gMem), b_X7_nextGround_0 M x0 = some z → (fun (r : Option Nat × gMem) => Q = gMQ below D cy B H0 args s 0 0 (some (vR r.1)) r.2) z → gGo p l e rX7_nextGround s m args below meth c D cy B H0 2 0 0 Q 0 [(0, vR (some x0))] [] M := by
  intro M x0 z hf hK
  unfold b_X7_nextGround_0 at hf
  refine g_aload_n X dX7_nextGround_0 rfl rfl ?_
  refine g_aload_n X dX7_nextGround_1 rfl rfl ?_
  obtain ⟨hT1, hf⟩ := ck_e hf
  refine g_get (ci := 6) (v := vI (mI M x0 2)) 2 X cdX7 i_X7_nextGround_X7 (by decide) k_X7_nextGround_f72 rfl dX7_nextGround_2 rfl hT1 rfl ?_
  refine g_iconst (v := (1 : Int32)) X dX7_nextGround_5 (by decide) ?_
  refine g_iadd X dX7_nextGround_6 ?_
  refine g_bipush (v := (8 : Int32)) X dX7_nextGround_7 (by decide) ?_
  refine g_min X k_X7_nextGround_m87 k_X7_nextGround_mmins k_X7_nextGround_mi k_X7_nextGround_mminc (Nat.le_of_ble_eq_true rfl) (Nat.le_of_ble_eq_true rfl) ⟨by decide, by decide⟩ dX7_nextGround_9 ?_
  refine g_putI (ci := 6) 2 X cdX7 i_X7_nextGround_X7 (by decide) k_X7_nextGround_f72 rfl dX7_nextGround_12 rfl hT1 (Or.inl rfl) rfl rfl rfl ?_
  obtain ⟨M2, hM2, hf⟩ := lw_e hf
  rw [← hM2]
  have hT3 : mT M2 x0 = 7 := by rw [hM2]; exact hT1
  refine g_aload_n X dX7_nextGround_15 rfl rfl ?_
  refine g_get (ci := 6) (v := vR (mR M2 x0 6)) 6 X cdX7 i_X7_nextGround_X7 (by decide) k_X7_nextGround_f17 rfl dX7_nextGround_16 rfl hT3 rfl ?_
  refine g_aload_n X dX7_nextGround_19 rfl rfl ?_
  refine g_get (ci := 6) (v := vI (mI M2 x0 2)) 2 X cdX7 i_X7_nextGround_X7 (by decide) k_X7_nextGround_f72 rfl dX7_nextGround_20 rfl hT3 rfl ?_
  refine g_iconst (v := (1 : Int32)) X dX7_nextGround_23 (by decide) ?_
  refine g_isub X dX7_nextGround_24 ?_
  obtain ⟨a4, ha4, hf⟩ := dr_e hf
  obtain ⟨hT5, hf⟩ := ck_e hf
  obtain ⟨hg6, hf⟩ := ck_e hf
  refine g_aald (t0 := 3) X dX7_nextGround_25 ha4 hT5 (by decide) rfl hg6 ?_
  refine g_astore_n (lv' := [(1, vR (mR M2 a4 (((mI M2 x0 2) - (1 : Int32))).toNatClampNeg)), (0, vR (some x0))]) X dX7_nextGround_26 rfl (by decide) rfl ?_
  refine g_aload_n X dX7_nextGround_27 rfl rfl ?_
  refine g_aload_n X dX7_nextGround_28 rfl rfl ?_
  refine g_get (ci := 6) (v := vR (mR M2 x0 14)) 14 X cdX7 i_X7_nextGround_X7 (by decide) k_X7_nextGround_f57 rfl dX7_nextGround_29 rfl hT3 rfl ?_
  obtain ⟨a8, ha8, hf⟩ := dr_e hf
  obtain ⟨hT9, hf⟩ := ck_e hf
  obtain ⟨r7, M7, hq7, hf⟩ := bd_e hf
  refine g_callV (ci := 2) (b := a8) (As := [vR (mR M2 x0 14)]) (st := []) (v := none) (M1 := M7) X (m_X3_copyFrom l hq7) (cwV 1 X.2.2.1 gX7_nextGround_X3_copyFrom rfl rfl rfl (by decide +kernel) ⟨Nat.le_of_ble_eq_true rfl, Nat.le_of_ble_eq_true rfl⟩) rfl rfl ha8 hT9 (by decide) rfl (Nat.le_of_ble_eq_true rfl) dX7_nextGround_32 ⟨by decide, by decide⟩ ?_
  refine g_aload_n X dX7_nextGround_35 rfl rfl ?_
  cases hf
  refine g_eqQ hK ?_
  exact g_aret X hr (Or.inl ⟨_, rfl⟩) dX7_nextGround_36
set_option maxHeartbeats 4000000 in
set_option maxRecDepth 100000 in
theorem m_X7_nextGround (l : Launch) {D : va_G} {cy : Nat → ClassId} {B : Nat} {H0 : Heap} {Z : Nat → Nat} {M M1 : gMem} {x0 : Nat} {r : Option Nat} (hf : f_X7_nextGround M x0 = some (r, M1)) : Met l yX7_nextGround wsX7_nextGround rX7_nextGround (va_Pc (Value.ref x0 :: List.map gv []) (gPre D cy B H0 (gSt Z B H0) M)) (gQ D cy B H0 (some (vR r)) M1) 0 0 (gA B) := by
  refine Met.ofW (cc := cX7_nextGround) (maxL := 2) (ret := (some (.object "TideLots$Ground"))) (by decide) rfl ?_
  intro p e s m args below meth c s₁ Bd hml hv
  obtain ⟨rfl, hW, hKK, hFs⟩ := hv
  have X : gX p s m _ meth c D cy B (gSt Z B H0) RX7 cX7_nextGround wsX7_nextGround 2 := ⟨Bd.exec, Bd.bytes, atoms_spec (ws := wsX7_nextGround) Bd.pre, findClass_of_methodNamed Bd.named, hml, hKK, by rw [hW.1]; exact hW.2.1, Bd.notSynchronized, hFs⟩
  have hr := Bd.returns
  have hl := lv_entry ([.ref x0]) (n := 2) (Nat.le_of_ble_eq_true rfl)
  show W p l e rX7_nextGround s m _ below meth c s.heap [] 0 0 _ (entryFrame m ([.ref x0] : List Value).toArray 2)
  rw [lg_entry_eq]
  generalize (lg_sl ([.ref x0]) ++ List.replicate (2 - (lg_sl ([.ref x0])).length) Slot.unset).toArray = ls at hl ⊢
  have hl : lv_has ls 2 (List.map gq [(0, vR (some x0))]) := hl
  exact t_X7_nextGround_0 X hr _ _ _ hf rfl s.heap [] ls hW va_S.rf (lv_has_sub hl (lvsub_of _ _ [0] rfl))
/-! ## TideLots$Shore.nextFisher()LTideLots$Fisher; -/
theorem dX7_nextFisher_0 : decode cX7_nextFisher 0 = .ok (.aload_n 0, 1) := by decide +kernel
theorem dX7_nextFisher_1 : decode cX7_nextFisher 1 = .ok (.aload_n 0, 1) := by decide +kernel
theorem dX7_nextFisher_2 : decode cX7_nextFisher 2 = .ok (.getfield 75, 3) := by decide +kernel
theorem dX7_nextFisher_5 : decode cX7_nextFisher 5 = .ok (.iconst 1, 1) := by decide +kernel
theorem dX7_nextFisher_6 : decode cX7_nextFisher 6 = .ok (.iadd, 1) := by decide +kernel
theorem dX7_nextFisher_7 : decode cX7_nextFisher 7 = .ok (.bipush 8, 2) := by decide +kernel
theorem dX7_nextFisher_9 : decode cX7_nextFisher 9 = .ok (.invokestatic 87, 3) := by decide +kernel
theorem dX7_nextFisher_12 : decode cX7_nextFisher 12 = .ok (.putfield 75, 3) := by decide +kernel
theorem dX7_nextFisher_15 : decode cX7_nextFisher 15 = .ok (.aload_n 0, 1) := by decide +kernel
theorem dX7_nextFisher_16 : decode cX7_nextFisher 16 = .ok (.getfield 23, 3) := by decide +kernel
theorem dX7_nextFisher_19 : decode cX7_nextFisher 19 = .ok (.aload_n 0, 1) := by decide +kernel
theorem dX7_nextFisher_20 : decode cX7_nextFisher 20 = .ok (.getfield 75, 3) := by decide +kernel
theorem dX7_nextFisher_23 : decode cX7_nextFisher 23 = .ok (.iconst 1, 1) := by decide +kernel
theorem dX7_nextFisher_24 : decode cX7_nextFisher 24 = .ok (.isub, 1) := by decide +kernel
theorem dX7_nextFisher_25 : decode cX7_nextFisher 25 = .ok (.aaload, 1) := by decide +kernel
theorem dX7_nextFisher_26 : decode cX7_nextFisher 26 = .ok (.astore_n 1, 1) := by decide +kernel
theorem dX7_nextFisher_27 : decode cX7_nextFisher 27 = .ok (.aload_n 1, 1) := by decide +kernel
theorem dX7_nextFisher_28 : decode cX7_nextFisher 28 = .ok (.aload_n 0, 1) := by decide +kernel
theorem dX7_nextFisher_29 : decode cX7_nextFisher 29 = .ok (.getfield 62, 3) := by decide +kernel
theorem dX7_nextFisher_32 : decode cX7_nextFisher 32 = .ok (.invokevirtual 97, 3) := by decide +kernel
theorem dX7_nextFisher_35 : decode cX7_nextFisher 35 = .ok (.aload_n 1, 1) := by decide +kernel
theorem dX7_nextFisher_36 : decode cX7_nextFisher 36 = .ok (.areturn, 1) := by decide +kernel
set_option maxRecDepth 20000 in
theorem ggX7_nextFisher_X1_copyFrom : GoodIn wsX7_nextFisher wsX1_copyFrom := goodIn_r _ [12, 13, 14, 15, 16, 17, 18, 19, 20, 21, 22, 23, 41, 42, 43, 44, 45, 46, 47, 48, 49, 50, 51] (by decide +kernel) (by decide +kernel)
set_option maxRecDepth 20000 in
theorem gX7_nextFisher_X1_copyFrom : GoodIn wsX7_nextFisher (wsV RX7 97 RX1 yX1_copyFrom wsX1_copyFrom) := goodIn_app (goodIn_of _ (by decide +kernel)) ggX7_nextFisher_X1_copyFrom
theorem k_X7_nextFisher_f75 : Cond.fieldLink RX7 75 "TideLots$Shore" "fisherCount" "I" ∈ wsX7_nextFisher := by decide +kernel
theorem i_X7_nextFisher_X7 : ∀ w ∈ u_ws RX7 TX7 17, w ∈ wsX7_nextFisher := by decide +kernel
theorem k_X7_nextFisher_m87 : Cond.methodLink RX7 87 Lib.Math.min.name ∈ wsX7_nextFisher := by decide +kernel
theorem k_X7_nextFisher_mmins : Cond.static Lib.Math.min.name ∈ wsX7_nextFisher := by decide +kernel
theorem k_X7_nextFisher_mi : Cond.initialized "java/lang/Math" ∈ wsX7_nextFisher := by decide +kernel
theorem k_X7_nextFisher_mminc : Cond.code Lib.Math.min.name Lib.Math.min.code 2 (some .int) ∈ wsX7_nextFisher := by decide +kernel
theorem k_X7_nextFisher_f23 : Cond.fieldLink RX7 23 "TideLots$Shore" "fishers" "[LTideLots$Fisher;" ∈ wsX7_nextFisher := by decide +kernel
theorem k_X7_nextFisher_f62 : Cond.fieldLink RX7 62 "TideLots$Shore" "newFisher" "LTideLots$Fisher;" ∈ wsX7_nextFisher := by decide +kernel
abbrev rX7_nextFisher : Room := { frames := 1, cells := 0, slots := 0, locals := 22 }
noncomputable def b_X7_nextFisher_0 (M : gMem) (x0 : Nat) : Option (Option Nat × gMem) :=
  ck (mT M x0 = 7) <| lw (wI M x0 3 ((imin (((mI M x0 3) + (1 : Int32))) ((8 : Int32))))) fun M2 => dr ((mR M2 x0 7)) fun a4 => ck (mT M2 a4 = 24) <| ck (inb ((mI M2 x0 3) - (1 : Int32)) (mL M2 a4)) <| dr ((mR M2 a4 (((mI M2 x0 3) - (1 : Int32))).toNatClampNeg)) fun a8 => ck (mT M2 a8 = 1) <| bd (f_X1_copyFrom M2 a8 ((mR M2 x0 15))) fun _ M7 => some ((mR M2 a4 (((mI M2 x0 3) - (1 : Int32))).toNatClampNeg), M7)
noncomputable def f_X7_nextFisher (M : gMem) (x0 : Nat) : Option (Option Nat × gMem) :=
  b_X7_nextFisher_0 M x0
set_option maxHeartbeats 4000000 in
set_option maxRecDepth 100000 in
theorem t_X7_nextFisher_0 (X : gX p s m args meth c D cy B (gSt Z B H0) RX7 cX7_nextFisher wsX7_nextFisher 2) (hr : meth.sig.returnType = (some (.object "TideLots$Fisher"))) {Q : State → Prop} : ∀ (M : gMem) (x0 : Nat) (z : Option Nat × gMem), b_X7_nextFisher_0 M x0 = some z → (fun (r : Option Nat × gMem) => Q = gMQ below D cy B H0 args s 0 0 (some (vR r.1)) r.2) z → gGo p l e rX7_nextFisher s m args below meth c D cy B H0 2 0 0 Q 0 [(0, vR (some x0))] [] M := by
  intro M x0 z hf hK
  unfold b_X7_nextFisher_0 at hf
  refine g_aload_n X dX7_nextFisher_0 rfl rfl ?_
  refine g_aload_n X dX7_nextFisher_1 rfl rfl ?_
  obtain ⟨hT1, hf⟩ := ck_e hf
  refine g_get (ci := 6) (v := vI (mI M x0 3)) 3 X cdX7 i_X7_nextFisher_X7 (by decide) k_X7_nextFisher_f75 rfl dX7_nextFisher_2 rfl hT1 rfl ?_
  refine g_iconst (v := (1 : Int32)) X dX7_nextFisher_5 (by decide) ?_
  refine g_iadd X dX7_nextFisher_6 ?_
  refine g_bipush (v := (8 : Int32)) X dX7_nextFisher_7 (by decide) ?_
  refine g_min X k_X7_nextFisher_m87 k_X7_nextFisher_mmins k_X7_nextFisher_mi k_X7_nextFisher_mminc (Nat.le_of_ble_eq_true rfl) (Nat.le_of_ble_eq_true rfl) ⟨by decide, by decide⟩ dX7_nextFisher_9 ?_
  refine g_putI (ci := 6) 3 X cdX7 i_X7_nextFisher_X7 (by decide) k_X7_nextFisher_f75 rfl dX7_nextFisher_12 rfl hT1 (Or.inl rfl) rfl rfl rfl ?_
  obtain ⟨M2, hM2, hf⟩ := lw_e hf
  rw [← hM2]
  have hT3 : mT M2 x0 = 7 := by rw [hM2]; exact hT1
  refine g_aload_n X dX7_nextFisher_15 rfl rfl ?_
  refine g_get (ci := 6) (v := vR (mR M2 x0 7)) 7 X cdX7 i_X7_nextFisher_X7 (by decide) k_X7_nextFisher_f23 rfl dX7_nextFisher_16 rfl hT3 rfl ?_
  refine g_aload_n X dX7_nextFisher_19 rfl rfl ?_
  refine g_get (ci := 6) (v := vI (mI M2 x0 3)) 3 X cdX7 i_X7_nextFisher_X7 (by decide) k_X7_nextFisher_f75 rfl dX7_nextFisher_20 rfl hT3 rfl ?_
  refine g_iconst (v := (1 : Int32)) X dX7_nextFisher_23 (by decide) ?_
  refine g_isub X dX7_nextFisher_24 ?_
  obtain ⟨a4, ha4, hf⟩ := dr_e hf
  obtain ⟨hT5, hf⟩ := ck_e hf
  obtain ⟨hg6, hf⟩ := ck_e hf
  refine g_aald (t0 := 4) X dX7_nextFisher_25 ha4 hT5 (by decide) rfl hg6 ?_
  refine g_astore_n (lv' := [(1, vR (mR M2 a4 (((mI M2 x0 3) - (1 : Int32))).toNatClampNeg)), (0, vR (some x0))]) X dX7_nextFisher_26 rfl (by decide) rfl ?_
  refine g_aload_n X dX7_nextFisher_27 rfl rfl ?_
  refine g_aload_n X dX7_nextFisher_28 rfl rfl ?_
  refine g_get (ci := 6) (v := vR (mR M2 x0 15)) 15 X cdX7 i_X7_nextFisher_X7 (by decide) k_X7_nextFisher_f62 rfl dX7_nextFisher_29 rfl hT3 rfl ?_
  obtain ⟨a8, ha8, hf⟩ := dr_e hf
  obtain ⟨hT9, hf⟩ := ck_e hf
  obtain ⟨r7, M7, hq7, hf⟩ := bd_e hf
  refine g_callV (ci := 0) (b := a8) (As := [vR (mR M2 x0 15)]) (st := []) (v := none) (M1 := M7) X (m_X1_copyFrom l hq7) (cwV 1 X.2.2.1 gX7_nextFisher_X1_copyFrom rfl rfl rfl (by decide +kernel) ⟨Nat.le_of_ble_eq_true rfl, Nat.le_of_ble_eq_true rfl⟩) rfl rfl ha8 hT9 (by decide) rfl (Nat.le_of_ble_eq_true rfl) dX7_nextFisher_32 ⟨by decide, by decide⟩ ?_
  refine g_aload_n X dX7_nextFisher_35 rfl rfl ?_
  cases hf
  refine g_eqQ hK ?_
  exact g_aret X hr (Or.inl ⟨_, rfl⟩) dX7_nextFisher_36
set_option maxHeartbeats 4000000 in
set_option maxRecDepth 100000 in
theorem m_X7_nextFisher (l : Launch) {D : va_G} {cy : Nat → ClassId} {B : Nat} {H0 : Heap} {Z : Nat → Nat} {M M1 : gMem} {x0 : Nat} {r : Option Nat} (hf : f_X7_nextFisher M x0 = some (r, M1)) : Met l yX7_nextFisher wsX7_nextFisher rX7_nextFisher (va_Pc (Value.ref x0 :: List.map gv []) (gPre D cy B H0 (gSt Z B H0) M)) (gQ D cy B H0 (some (vR r)) M1) 0 0 (gA B) := by
  refine Met.ofW (cc := cX7_nextFisher) (maxL := 2) (ret := (some (.object "TideLots$Fisher"))) (by decide) rfl ?_
  intro p e s m args below meth c s₁ Bd hml hv
  obtain ⟨rfl, hW, hKK, hFs⟩ := hv
  have X : gX p s m _ meth c D cy B (gSt Z B H0) RX7 cX7_nextFisher wsX7_nextFisher 2 := ⟨Bd.exec, Bd.bytes, atoms_spec (ws := wsX7_nextFisher) Bd.pre, findClass_of_methodNamed Bd.named, hml, hKK, by rw [hW.1]; exact hW.2.1, Bd.notSynchronized, hFs⟩
  have hr := Bd.returns
  have hl := lv_entry ([.ref x0]) (n := 2) (Nat.le_of_ble_eq_true rfl)
  show W p l e rX7_nextFisher s m _ below meth c s.heap [] 0 0 _ (entryFrame m ([.ref x0] : List Value).toArray 2)
  rw [lg_entry_eq]
  generalize (lg_sl ([.ref x0]) ++ List.replicate (2 - (lg_sl ([.ref x0])).length) Slot.unset).toArray = ls at hl ⊢
  have hl : lv_has ls 2 (List.map gq [(0, vR (some x0))]) := hl
  exact t_X7_nextFisher_0 X hr _ _ _ hf rfl s.heap [] ls hW va_S.rf (lv_has_sub hl (lvsub_of _ _ [0] rfl))
/-! ## TideLots$Shore.nextGo()LTideLots$Go; -/
theorem dX7_nextGo_0 : decode cX7_nextGo 0 = .ok (.aload_n 0, 1) := by decide +kernel
theorem dX7_nextGo_1 : decode cX7_nextGo 1 = .ok (.aload_n 0, 1) := by decide +kernel
theorem dX7_nextGo_2 : decode cX7_nextGo 2 = .ok (.getfield 78, 3) := by decide +kernel
theorem dX7_nextGo_5 : decode cX7_nextGo 5 = .ok (.iconst 1, 1) := by decide +kernel
theorem dX7_nextGo_6 : decode cX7_nextGo 6 = .ok (.iadd, 1) := by decide +kernel
theorem dX7_nextGo_7 : decode cX7_nextGo 7 = .ok (.bipush 24, 2) := by decide +kernel
theorem dX7_nextGo_9 : decode cX7_nextGo 9 = .ok (.invokestatic 87, 3) := by decide +kernel
theorem dX7_nextGo_12 : decode cX7_nextGo 12 = .ok (.putfield 78, 3) := by decide +kernel
theorem dX7_nextGo_15 : decode cX7_nextGo 15 = .ok (.aload_n 0, 1) := by decide +kernel
theorem dX7_nextGo_16 : decode cX7_nextGo 16 = .ok (.getfield 29, 3) := by decide +kernel
theorem dX7_nextGo_19 : decode cX7_nextGo 19 = .ok (.aload_n 0, 1) := by decide +kernel
theorem dX7_nextGo_20 : decode cX7_nextGo 20 = .ok (.getfield 78, 3) := by decide +kernel
theorem dX7_nextGo_23 : decode cX7_nextGo 23 = .ok (.iconst 1, 1) := by decide +kernel
theorem dX7_nextGo_24 : decode cX7_nextGo 24 = .ok (.isub, 1) := by decide +kernel
theorem dX7_nextGo_25 : decode cX7_nextGo 25 = .ok (.aaload, 1) := by decide +kernel
theorem dX7_nextGo_26 : decode cX7_nextGo 26 = .ok (.areturn, 1) := by decide +kernel
theorem k_X7_nextGo_f78 : Cond.fieldLink RX7 78 "TideLots$Shore" "goCount" "I" ∈ wsX7_nextGo := by decide +kernel
theorem i_X7_nextGo_X7 : ∀ w ∈ u_ws RX7 TX7 17, w ∈ wsX7_nextGo := by decide +kernel
theorem k_X7_nextGo_m87 : Cond.methodLink RX7 87 Lib.Math.min.name ∈ wsX7_nextGo := by decide +kernel
theorem k_X7_nextGo_mmins : Cond.static Lib.Math.min.name ∈ wsX7_nextGo := by decide +kernel
theorem k_X7_nextGo_mi : Cond.initialized "java/lang/Math" ∈ wsX7_nextGo := by decide +kernel
theorem k_X7_nextGo_mminc : Cond.code Lib.Math.min.name Lib.Math.min.code 2 (some .int) ∈ wsX7_nextGo := by decide +kernel
theorem k_X7_nextGo_f29 : Cond.fieldLink RX7 29 "TideLots$Shore" "goes" "[LTideLots$Go;" ∈ wsX7_nextGo := by decide +kernel
abbrev rX7_nextGo : Room := { frames := 1, cells := 0, slots := 0, locals := 14 }
noncomputable def b_X7_nextGo_0 (M : gMem) (x0 : Nat) : Option (Option Nat × gMem) :=
  ck (mT M x0 = 7) <| lw (wI M x0 4 ((imin (((mI M x0 4) + (1 : Int32))) ((24 : Int32))))) fun M2 => dr ((mR M2 x0 8)) fun a4 => ck (mT M2 a4 = 25) <| ck (inb ((mI M2 x0 4) - (1 : Int32)) (mL M2 a4)) <| some ((mR M2 a4 (((mI M2 x0 4) - (1 : Int32))).toNatClampNeg), M2)
noncomputable def f_X7_nextGo (M : gMem) (x0 : Nat) : Option (Option Nat × gMem) :=
  b_X7_nextGo_0 M x0
set_option maxHeartbeats 4000000 in
set_option maxRecDepth 100000 in
theorem t_X7_nextGo_0 (X : gX p s m args meth c D cy B (gSt Z B H0) RX7 cX7_nextGo wsX7_nextGo 1) (hr : meth.sig.returnType = (some (.object "TideLots$Go"))) {Q : State → Prop} : ∀ (M : gMem) (x0 : Nat) (z : Option Nat × gMem), b_X7_nextGo_0 M x0 = some z → (fun (r : Option Nat × gMem) => Q = gMQ below D cy B H0 args s 0 0 (some (vR r.1)) r.2) z → gGo p l e rX7_nextGo s m args below meth c D cy B H0 1 0 0 Q 0 [(0, vR (some x0))] [] M := by
  intro M x0 z hf hK
  unfold b_X7_nextGo_0 at hf
  refine g_aload_n X dX7_nextGo_0 rfl rfl ?_
  refine g_aload_n X dX7_nextGo_1 rfl rfl ?_
  obtain ⟨hT1, hf⟩ := ck_e hf
  refine g_get (ci := 6) (v := vI (mI M x0 4)) 4 X cdX7 i_X7_nextGo_X7 (by decide) k_X7_nextGo_f78 rfl dX7_nextGo_2 rfl hT1 rfl ?_
  refine g_iconst (v := (1 : Int32)) X dX7_nextGo_5 (by decide) ?_
  refine g_iadd X dX7_nextGo_6 ?_
  refine g_bipush (v := (24 : Int32)) X dX7_nextGo_7 (by decide) ?_
  refine g_min X k_X7_nextGo_m87 k_X7_nextGo_mmins k_X7_nextGo_mi k_X7_nextGo_mminc (Nat.le_of_ble_eq_true rfl) (Nat.le_of_ble_eq_true rfl) ⟨by decide, by decide⟩ dX7_nextGo_9 ?_
  refine g_putI (ci := 6) 4 X cdX7 i_X7_nextGo_X7 (by decide) k_X7_nextGo_f78 rfl dX7_nextGo_12 rfl hT1 (Or.inl rfl) rfl rfl rfl ?_
  obtain ⟨M2, hM2, hf⟩ := lw_e hf
  rw [← hM2]
  have hT3 : mT M2 x0 = 7 := by rw [hM2]; exact hT1
  refine g_aload_n X dX7_nextGo_15 rfl rfl ?_
  refine g_get (ci := 6) (v := vR (mR M2 x0 8)) 8 X cdX7 i_X7_nextGo_X7 (by decide) k_X7_nextGo_f29 rfl dX7_nextGo_16 rfl hT3 rfl ?_
  refine g_aload_n X dX7_nextGo_19 rfl rfl ?_
  refine g_get (ci := 6) (v := vI (mI M2 x0 4)) 4 X cdX7 i_X7_nextGo_X7 (by decide) k_X7_nextGo_f78 rfl dX7_nextGo_20 rfl hT3 rfl ?_
  refine g_iconst (v := (1 : Int32)) X dX7_nextGo_23 (by decide) ?_
  refine g_isub X dX7_nextGo_24 ?_
  obtain ⟨a4, ha4, hf⟩ := dr_e hf
  obtain ⟨hT5, hf⟩ := ck_e hf
  obtain ⟨hg6, hf⟩ := ck_e hf
  refine g_aald (t0 := 5) X dX7_nextGo_25 ha4 hT5 (by decide) rfl hg6 ?_
  cases hf
  refine g_eqQ hK ?_
  exact g_aret X hr (Or.inl ⟨_, rfl⟩) dX7_nextGo_26
set_option maxHeartbeats 4000000 in
set_option maxRecDepth 100000 in
theorem m_X7_nextGo (l : Launch) {D : va_G} {cy : Nat → ClassId} {B : Nat} {H0 : Heap} {Z : Nat → Nat} {M M1 : gMem} {x0 : Nat} {r : Option Nat} (hf : f_X7_nextGo M x0 = some (r, M1)) : Met l yX7_nextGo wsX7_nextGo rX7_nextGo (va_Pc (Value.ref x0 :: List.map gv []) (gPre D cy B H0 (gSt Z B H0) M)) (gQ D cy B H0 (some (vR r)) M1) 0 0 (gA B) := by
  refine Met.ofW (cc := cX7_nextGo) (maxL := 1) (ret := (some (.object "TideLots$Go"))) (by decide) rfl ?_
  intro p e s m args below meth c s₁ Bd hml hv
  obtain ⟨rfl, hW, hKK, hFs⟩ := hv
  have X : gX p s m _ meth c D cy B (gSt Z B H0) RX7 cX7_nextGo wsX7_nextGo 1 := ⟨Bd.exec, Bd.bytes, atoms_spec (ws := wsX7_nextGo) Bd.pre, findClass_of_methodNamed Bd.named, hml, hKK, by rw [hW.1]; exact hW.2.1, Bd.notSynchronized, hFs⟩
  have hr := Bd.returns
  have hl := lv_entry ([.ref x0]) (n := 1) (Nat.le_of_ble_eq_true rfl)
  show W p l e rX7_nextGo s m _ below meth c s.heap [] 0 0 _ (entryFrame m ([.ref x0] : List Value).toArray 1)
  rw [lg_entry_eq]
  generalize (lg_sl ([.ref x0]) ++ List.replicate (1 - (lg_sl ([.ref x0])).length) Slot.unset).toArray = ls at hl ⊢
  have hl : lv_has ls 1 (List.map gq [(0, vR (some x0))]) := hl
  exact t_X7_nextGo_0 X hr _ _ _ hf rfl s.heap [] ls hW va_S.rf (lv_has_sub hl (lvsub_of _ _ [0] rfl))
/-! ## TideLots$Shore.nextPact()LTideLots$Pact; -/
theorem dX7_nextPact_0 : decode cX7_nextPact 0 = .ok (.aload_n 0, 1) := by decide +kernel
theorem dX7_nextPact_1 : decode cX7_nextPact 1 = .ok (.aload_n 0, 1) := by decide +kernel
theorem dX7_nextPact_2 : decode cX7_nextPact 2 = .ok (.getfield 81, 3) := by decide +kernel
theorem dX7_nextPact_5 : decode cX7_nextPact 5 = .ok (.iconst 1, 1) := by decide +kernel
theorem dX7_nextPact_6 : decode cX7_nextPact 6 = .ok (.iadd, 1) := by decide +kernel
theorem dX7_nextPact_7 : decode cX7_nextPact 7 = .ok (.bipush 6, 2) := by decide +kernel
theorem dX7_nextPact_9 : decode cX7_nextPact 9 = .ok (.invokestatic 87, 3) := by decide +kernel
theorem dX7_nextPact_12 : decode cX7_nextPact 12 = .ok (.putfield 81, 3) := by decide +kernel
theorem dX7_nextPact_15 : decode cX7_nextPact 15 = .ok (.aload_n 0, 1) := by decide +kernel
theorem dX7_nextPact_16 : decode cX7_nextPact 16 = .ok (.getfield 35, 3) := by decide +kernel
theorem dX7_nextPact_19 : decode cX7_nextPact 19 = .ok (.aload_n 0, 1) := by decide +kernel
theorem dX7_nextPact_20 : decode cX7_nextPact 20 = .ok (.getfield 81, 3) := by decide +kernel
theorem dX7_nextPact_23 : decode cX7_nextPact 23 = .ok (.iconst 1, 1) := by decide +kernel
theorem dX7_nextPact_24 : decode cX7_nextPact 24 = .ok (.isub, 1) := by decide +kernel
theorem dX7_nextPact_25 : decode cX7_nextPact 25 = .ok (.aaload, 1) := by decide +kernel
theorem dX7_nextPact_26 : decode cX7_nextPact 26 = .ok (.astore_n 1, 1) := by decide +kernel
theorem dX7_nextPact_27 : decode cX7_nextPact 27 = .ok (.aload_n 1, 1) := by decide +kernel
theorem dX7_nextPact_28 : decode cX7_nextPact 28 = .ok (.aload_n 0, 1) := by decide +kernel
theorem dX7_nextPact_29 : decode cX7_nextPact 29 = .ok (.getfield 67, 3) := by decide +kernel
theorem dX7_nextPact_32 : decode cX7_nextPact 32 = .ok (.invokevirtual 100, 3) := by decide +kernel
theorem dX7_nextPact_35 : decode cX7_nextPact 35 = .ok (.aload_n 1, 1) := by decide +kernel
theorem dX7_nextPact_36 : decode cX7_nextPact 36 = .ok (.areturn, 1) := by decide +kernel
set_option maxRecDepth 20000 in
theorem ggX7_nextPact_X5_copyFrom : GoodIn wsX7_nextPact wsX5_copyFrom := goodIn_r _ [12, 13, 14, 15, 16, 17, 18, 19, 20, 38, 39, 40, 41, 42, 43, 44, 45] (by decide +kernel) (by decide +kernel)
set_option maxRecDepth 20000 in
theorem gX7_nextPact_X5_copyFrom : GoodIn wsX7_nextPact (wsV RX7 100 RX5 yX5_copyFrom wsX5_copyFrom) := goodIn_app (goodIn_of _ (by decide +kernel)) ggX7_nextPact_X5_copyFrom
theorem k_X7_nextPact_f81 : Cond.fieldLink RX7 81 "TideLots$Shore" "pactCount" "I" ∈ wsX7_nextPact := by decide +kernel
theorem i_X7_nextPact_X7 : ∀ w ∈ u_ws RX7 TX7 17, w ∈ wsX7_nextPact := by decide +kernel
theorem k_X7_nextPact_m87 : Cond.methodLink RX7 87 Lib.Math.min.name ∈ wsX7_nextPact := by decide +kernel
theorem k_X7_nextPact_mmins : Cond.static Lib.Math.min.name ∈ wsX7_nextPact := by decide +kernel
theorem k_X7_nextPact_mi : Cond.initialized "java/lang/Math" ∈ wsX7_nextPact := by decide +kernel
theorem k_X7_nextPact_mminc : Cond.code Lib.Math.min.name Lib.Math.min.code 2 (some .int) ∈ wsX7_nextPact := by decide +kernel
theorem k_X7_nextPact_f35 : Cond.fieldLink RX7 35 "TideLots$Shore" "pacts" "[LTideLots$Pact;" ∈ wsX7_nextPact := by decide +kernel
theorem k_X7_nextPact_f67 : Cond.fieldLink RX7 67 "TideLots$Shore" "newPact" "LTideLots$Pact;" ∈ wsX7_nextPact := by decide +kernel
abbrev rX7_nextPact : Room := { frames := 1, cells := 0, slots := 0, locals := 22 }
noncomputable def b_X7_nextPact_0 (M : gMem) (x0 : Nat) : Option (Option Nat × gMem) :=
  ck (mT M x0 = 7) <| lw (wI M x0 5 ((imin (((mI M x0 5) + (1 : Int32))) ((6 : Int32))))) fun M2 => dr ((mR M2 x0 9)) fun a4 => ck (mT M2 a4 = 26) <| ck (inb ((mI M2 x0 5) - (1 : Int32)) (mL M2 a4)) <| dr ((mR M2 a4 (((mI M2 x0 5) - (1 : Int32))).toNatClampNeg)) fun a8 => ck (mT M2 a8 = 5) <| bd (f_X5_copyFrom M2 a8 ((mR M2 x0 16))) fun _ M7 => some ((mR M2 a4 (((mI M2 x0 5) - (1 : Int32))).toNatClampNeg), M7)
noncomputable def f_X7_nextPact (M : gMem) (x0 : Nat) : Option (Option Nat × gMem) :=
  b_X7_nextPact_0 M x0
set_option maxHeartbeats 4000000 in
set_option maxRecDepth 100000 in
theorem t_X7_nextPact_0 (X : gX p s m args meth c D cy B (gSt Z B H0) RX7 cX7_nextPact wsX7_nextPact 2) (hr : meth.sig.returnType = (some (.object "TideLots$Pact"))) {Q : State → Prop} : ∀ (M : gMem) (x0 : Nat) (z : Option Nat × gMem), b_X7_nextPact_0 M x0 = some z → (fun (r : Option Nat × gMem) => Q = gMQ below D cy B H0 args s 0 0 (some (vR r.1)) r.2) z → gGo p l e rX7_nextPact s m args below meth c D cy B H0 2 0 0 Q 0 [(0, vR (some x0))] [] M := by
  intro M x0 z hf hK
  unfold b_X7_nextPact_0 at hf
  refine g_aload_n X dX7_nextPact_0 rfl rfl ?_
  refine g_aload_n X dX7_nextPact_1 rfl rfl ?_
  obtain ⟨hT1, hf⟩ := ck_e hf
  refine g_get (ci := 6) (v := vI (mI M x0 5)) 5 X cdX7 i_X7_nextPact_X7 (by decide) k_X7_nextPact_f81 rfl dX7_nextPact_2 rfl hT1 rfl ?_
  refine g_iconst (v := (1 : Int32)) X dX7_nextPact_5 (by decide) ?_
  refine g_iadd X dX7_nextPact_6 ?_
  refine g_bipush (v := (6 : Int32)) X dX7_nextPact_7 (by decide) ?_
  refine g_min X k_X7_nextPact_m87 k_X7_nextPact_mmins k_X7_nextPact_mi k_X7_nextPact_mminc (Nat.le_of_ble_eq_true rfl) (Nat.le_of_ble_eq_true rfl) ⟨by decide, by decide⟩ dX7_nextPact_9 ?_
  refine g_putI (ci := 6) 5 X cdX7 i_X7_nextPact_X7 (by decide) k_X7_nextPact_f81 rfl dX7_nextPact_12 rfl hT1 (Or.inl rfl) rfl rfl rfl ?_
  obtain ⟨M2, hM2, hf⟩ := lw_e hf
  rw [← hM2]
  have hT3 : mT M2 x0 = 7 := by rw [hM2]; exact hT1
  refine g_aload_n X dX7_nextPact_15 rfl rfl ?_
  refine g_get (ci := 6) (v := vR (mR M2 x0 9)) 9 X cdX7 i_X7_nextPact_X7 (by decide) k_X7_nextPact_f35 rfl dX7_nextPact_16 rfl hT3 rfl ?_
  refine g_aload_n X dX7_nextPact_19 rfl rfl ?_
  refine g_get (ci := 6) (v := vI (mI M2 x0 5)) 5 X cdX7 i_X7_nextPact_X7 (by decide) k_X7_nextPact_f81 rfl dX7_nextPact_20 rfl hT3 rfl ?_
  refine g_iconst (v := (1 : Int32)) X dX7_nextPact_23 (by decide) ?_
  refine g_isub X dX7_nextPact_24 ?_
  obtain ⟨a4, ha4, hf⟩ := dr_e hf
  obtain ⟨hT5, hf⟩ := ck_e hf
  obtain ⟨hg6, hf⟩ := ck_e hf
  refine g_aald (t0 := 6) X dX7_nextPact_25 ha4 hT5 (by decide) rfl hg6 ?_
  refine g_astore_n (lv' := [(1, vR (mR M2 a4 (((mI M2 x0 5) - (1 : Int32))).toNatClampNeg)), (0, vR (some x0))]) X dX7_nextPact_26 rfl (by decide) rfl ?_
  refine g_aload_n X dX7_nextPact_27 rfl rfl ?_
  refine g_aload_n X dX7_nextPact_28 rfl rfl ?_
  refine g_get (ci := 6) (v := vR (mR M2 x0 16)) 16 X cdX7 i_X7_nextPact_X7 (by decide) k_X7_nextPact_f67 rfl dX7_nextPact_29 rfl hT3 rfl ?_
  obtain ⟨a8, ha8, hf⟩ := dr_e hf
  obtain ⟨hT9, hf⟩ := ck_e hf
  obtain ⟨r7, M7, hq7, hf⟩ := bd_e hf
  refine g_callV (ci := 4) (b := a8) (As := [vR (mR M2 x0 16)]) (st := []) (v := none) (M1 := M7) X (m_X5_copyFrom l hq7) (cwV 1 X.2.2.1 gX7_nextPact_X5_copyFrom rfl rfl rfl (by decide +kernel) ⟨Nat.le_of_ble_eq_true rfl, Nat.le_of_ble_eq_true rfl⟩) rfl rfl ha8 hT9 (by decide) rfl (Nat.le_of_ble_eq_true rfl) dX7_nextPact_32 ⟨by decide, by decide⟩ ?_
  refine g_aload_n X dX7_nextPact_35 rfl rfl ?_
  cases hf
  refine g_eqQ hK ?_
  exact g_aret X hr (Or.inl ⟨_, rfl⟩) dX7_nextPact_36
set_option maxHeartbeats 4000000 in
set_option maxRecDepth 100000 in
theorem m_X7_nextPact (l : Launch) {D : va_G} {cy : Nat → ClassId} {B : Nat} {H0 : Heap} {Z : Nat → Nat} {M M1 : gMem} {x0 : Nat} {r : Option Nat} (hf : f_X7_nextPact M x0 = some (r, M1)) : Met l yX7_nextPact wsX7_nextPact rX7_nextPact (va_Pc (Value.ref x0 :: List.map gv []) (gPre D cy B H0 (gSt Z B H0) M)) (gQ D cy B H0 (some (vR r)) M1) 0 0 (gA B) := by
  refine Met.ofW (cc := cX7_nextPact) (maxL := 2) (ret := (some (.object "TideLots$Pact"))) (by decide) rfl ?_
  intro p e s m args below meth c s₁ Bd hml hv
  obtain ⟨rfl, hW, hKK, hFs⟩ := hv
  have X : gX p s m _ meth c D cy B (gSt Z B H0) RX7 cX7_nextPact wsX7_nextPact 2 := ⟨Bd.exec, Bd.bytes, atoms_spec (ws := wsX7_nextPact) Bd.pre, findClass_of_methodNamed Bd.named, hml, hKK, by rw [hW.1]; exact hW.2.1, Bd.notSynchronized, hFs⟩
  have hr := Bd.returns
  have hl := lv_entry ([.ref x0]) (n := 2) (Nat.le_of_ble_eq_true rfl)
  show W p l e rX7_nextPact s m _ below meth c s.heap [] 0 0 _ (entryFrame m ([.ref x0] : List Value).toArray 2)
  rw [lg_entry_eq]
  generalize (lg_sl ([.ref x0]) ++ List.replicate (2 - (lg_sl ([.ref x0])).length) Slot.unset).toArray = ls at hl ⊢
  have hl : lv_has ls 2 (List.map gq [(0, vR (some x0))]) := hl
  exact t_X7_nextPact_0 X hr _ _ _ hf rfl s.heap [] ls hW va_S.rf (lv_has_sub hl (lvsub_of _ _ [0] rfl))
/-! ## TideLots$Shore.copyFrom(LTideLots$Shore;)V -/
theorem dX7_copyFrom_0 : decode cX7_copyFrom 0 = .ok (.aload_n 0, 1) := by decide +kernel
theorem dX7_copyFrom_1 : decode cX7_copyFrom 1 = .ok (.aload_n 1, 1) := by decide +kernel
theorem dX7_copyFrom_2 : decode cX7_copyFrom 2 = .ok (.getfield 103, 3) := by decide +kernel
theorem dX7_copyFrom_5 : decode cX7_copyFrom 5 = .ok (.putfield 103, 3) := by decide +kernel
theorem dX7_copyFrom_8 : decode cX7_copyFrom 8 = .ok (.aload_n 0, 1) := by decide +kernel
theorem dX7_copyFrom_9 : decode cX7_copyFrom 9 = .ok (.aload_n 1, 1) := by decide +kernel
theorem dX7_copyFrom_10 : decode cX7_copyFrom 10 = .ok (.getfield 9, 3) := by decide +kernel
theorem dX7_copyFrom_13 : decode cX7_copyFrom 13 = .ok (.putfield 9, 3) := by decide +kernel
theorem dX7_copyFrom_16 : decode cX7_copyFrom 16 = .ok (.aload_n 0, 1) := by decide +kernel
theorem dX7_copyFrom_17 : decode cX7_copyFrom 17 = .ok (.aload_n 1, 1) := by decide +kernel
theorem dX7_copyFrom_18 : decode cX7_copyFrom 18 = .ok (.getfield 72, 3) := by decide +kernel
theorem dX7_copyFrom_21 : decode cX7_copyFrom 21 = .ok (.putfield 72, 3) := by decide +kernel
theorem dX7_copyFrom_24 : decode cX7_copyFrom 24 = .ok (.aload_n 0, 1) := by decide +kernel
theorem dX7_copyFrom_25 : decode cX7_copyFrom 25 = .ok (.aload_n 1, 1) := by decide +kernel
theorem dX7_copyFrom_26 : decode cX7_copyFrom 26 = .ok (.getfield 75, 3) := by decide +kernel
theorem dX7_copyFrom_29 : decode cX7_copyFrom 29 = .ok (.putfield 75, 3) := by decide +kernel
theorem dX7_copyFrom_32 : decode cX7_copyFrom 32 = .ok (.aload_n 0, 1) := by decide +kernel
theorem dX7_copyFrom_33 : decode cX7_copyFrom 33 = .ok (.aload_n 1, 1) := by decide +kernel
theorem dX7_copyFrom_34 : decode cX7_copyFrom 34 = .ok (.getfield 78, 3) := by decide +kernel
theorem dX7_copyFrom_37 : decode cX7_copyFrom 37 = .ok (.putfield 78, 3) := by decide +kernel
theorem dX7_copyFrom_40 : decode cX7_copyFrom 40 = .ok (.aload_n 0, 1) := by decide +kernel
theorem dX7_copyFrom_41 : decode cX7_copyFrom 41 = .ok (.aload_n 1, 1) := by decide +kernel
theorem dX7_copyFrom_42 : decode cX7_copyFrom 42 = .ok (.getfield 81, 3) := by decide +kernel
theorem dX7_copyFrom_45 : decode cX7_copyFrom 45 = .ok (.putfield 81, 3) := by decide +kernel
theorem dX7_copyFrom_48 : decode cX7_copyFrom 48 = .ok (.iconst 0, 1) := by decide +kernel
theorem dX7_copyFrom_49 : decode cX7_copyFrom 49 = .ok (.istore_n 2, 1) := by decide +kernel
theorem dX7_copyFrom_50 : decode cX7_copyFrom 50 = .ok (.iload_n 2, 1) := by decide +kernel
theorem dX7_copyFrom_51 : decode cX7_copyFrom 51 = .ok (.aload_n 0, 1) := by decide +kernel
theorem dX7_copyFrom_52 : decode cX7_copyFrom 52 = .ok (.getfield 72, 3) := by decide +kernel
theorem dX7_copyFrom_55 : decode cX7_copyFrom 55 = .ok (.if_icmp .ge 24, 3) := by decide +kernel
theorem dX7_copyFrom_58 : decode cX7_copyFrom 58 = .ok (.aload_n 0, 1) := by decide +kernel
theorem dX7_copyFrom_59 : decode cX7_copyFrom 59 = .ok (.getfield 17, 3) := by decide +kernel
theorem dX7_copyFrom_62 : decode cX7_copyFrom 62 = .ok (.iload_n 2, 1) := by decide +kernel
theorem dX7_copyFrom_63 : decode cX7_copyFrom 63 = .ok (.aaload, 1) := by decide +kernel
theorem dX7_copyFrom_64 : decode cX7_copyFrom 64 = .ok (.aload_n 1, 1) := by decide +kernel
theorem dX7_copyFrom_65 : decode cX7_copyFrom 65 = .ok (.getfield 17, 3) := by decide +kernel
theorem dX7_copyFrom_68 : decode cX7_copyFrom 68 = .ok (.iload_n 2, 1) := by decide +kernel
theorem dX7_copyFrom_69 : decode cX7_copyFrom 69 = .ok (.aaload, 1) := by decide +kernel
theorem dX7_copyFrom_70 : decode cX7_copyFrom 70 = .ok (.invokevirtual 93, 3) := by decide +kernel
theorem dX7_copyFrom_73 : decode cX7_copyFrom 73 = .ok (.iinc 2 1, 3) := by decide +kernel
theorem dX7_copyFrom_76 : decode cX7_copyFrom 76 = .ok (.goto (-26), 3) := by decide +kernel
theorem dX7_copyFrom_79 : decode cX7_copyFrom 79 = .ok (.iconst 0, 1) := by decide +kernel
theorem dX7_copyFrom_80 : decode cX7_copyFrom 80 = .ok (.istore_n 2, 1) := by decide +kernel
theorem dX7_copyFrom_81 : decode cX7_copyFrom 81 = .ok (.iload_n 2, 1) := by decide +kernel
theorem dX7_copyFrom_82 : decode cX7_copyFrom 82 = .ok (.aload_n 0, 1) := by decide +kernel
theorem dX7_copyFrom_83 : decode cX7_copyFrom 83 = .ok (.getfield 75, 3) := by decide +kernel
theorem dX7_copyFrom_86 : decode cX7_copyFrom 86 = .ok (.if_icmp .ge 24, 3) := by decide +kernel
theorem dX7_copyFrom_89 : decode cX7_copyFrom 89 = .ok (.aload_n 0, 1) := by decide +kernel
theorem dX7_copyFrom_90 : decode cX7_copyFrom 90 = .ok (.getfield 23, 3) := by decide +kernel
theorem dX7_copyFrom_93 : decode cX7_copyFrom 93 = .ok (.iload_n 2, 1) := by decide +kernel
theorem dX7_copyFrom_94 : decode cX7_copyFrom 94 = .ok (.aaload, 1) := by decide +kernel
theorem dX7_copyFrom_95 : decode cX7_copyFrom 95 = .ok (.aload_n 1, 1) := by decide +kernel
theorem dX7_copyFrom_96 : decode cX7_copyFrom 96 = .ok (.getfield 23, 3) := by decide +kernel
theorem dX7_copyFrom_99 : decode cX7_copyFrom 99 = .ok (.iload_n 2, 1) := by decide +kernel
theorem dX7_copyFrom_100 : decode cX7_copyFrom 100 = .ok (.aaload, 1) := by decide +kernel
theorem dX7_copyFrom_101 : decode cX7_copyFrom 101 = .ok (.invokevirtual 97, 3) := by decide +kernel
theorem dX7_copyFrom_104 : decode cX7_copyFrom 104 = .ok (.iinc 2 1, 3) := by decide +kernel
theorem dX7_copyFrom_107 : decode cX7_copyFrom 107 = .ok (.goto (-26), 3) := by decide +kernel
theorem dX7_copyFrom_110 : decode cX7_copyFrom 110 = .ok (.iconst 0, 1) := by decide +kernel
theorem dX7_copyFrom_111 : decode cX7_copyFrom 111 = .ok (.istore_n 2, 1) := by decide +kernel
theorem dX7_copyFrom_112 : decode cX7_copyFrom 112 = .ok (.iload_n 2, 1) := by decide +kernel
theorem dX7_copyFrom_113 : decode cX7_copyFrom 113 = .ok (.aload_n 0, 1) := by decide +kernel
theorem dX7_copyFrom_114 : decode cX7_copyFrom 114 = .ok (.getfield 78, 3) := by decide +kernel
theorem dX7_copyFrom_117 : decode cX7_copyFrom 117 = .ok (.if_icmp .ge 24, 3) := by decide +kernel
theorem dX7_copyFrom_120 : decode cX7_copyFrom 120 = .ok (.aload_n 0, 1) := by decide +kernel
theorem dX7_copyFrom_121 : decode cX7_copyFrom 121 = .ok (.getfield 29, 3) := by decide +kernel
theorem dX7_copyFrom_124 : decode cX7_copyFrom 124 = .ok (.iload_n 2, 1) := by decide +kernel
theorem dX7_copyFrom_125 : decode cX7_copyFrom 125 = .ok (.aaload, 1) := by decide +kernel
theorem dX7_copyFrom_126 : decode cX7_copyFrom 126 = .ok (.aload_n 1, 1) := by decide +kernel
theorem dX7_copyFrom_127 : decode cX7_copyFrom 127 = .ok (.getfield 29, 3) := by decide +kernel
theorem dX7_copyFrom_130 : decode cX7_copyFrom 130 = .ok (.iload_n 2, 1) := by decide +kernel
theorem dX7_copyFrom_131 : decode cX7_copyFrom 131 = .ok (.aaload, 1) := by decide +kernel
theorem dX7_copyFrom_132 : decode cX7_copyFrom 132 = .ok (.invokevirtual 106, 3) := by decide +kernel
theorem dX7_copyFrom_135 : decode cX7_copyFrom 135 = .ok (.iinc 2 1, 3) := by decide +kernel
theorem dX7_copyFrom_138 : decode cX7_copyFrom 138 = .ok (.goto (-26), 3) := by decide +kernel
theorem dX7_copyFrom_141 : decode cX7_copyFrom 141 = .ok (.iconst 0, 1) := by decide +kernel
theorem dX7_copyFrom_142 : decode cX7_copyFrom 142 = .ok (.istore_n 2, 1) := by decide +kernel
theorem dX7_copyFrom_143 : decode cX7_copyFrom 143 = .ok (.iload_n 2, 1) := by decide +kernel
theorem dX7_copyFrom_144 : decode cX7_copyFrom 144 = .ok (.aload_n 0, 1) := by decide +kernel
theorem dX7_copyFrom_145 : decode cX7_copyFrom 145 = .ok (.getfield 81, 3) := by decide +kernel
theorem dX7_copyFrom_148 : decode cX7_copyFrom 148 = .ok (.if_icmp .ge 24, 3) := by decide +kernel
theorem dX7_copyFrom_151 : decode cX7_copyFrom 151 = .ok (.aload_n 0, 1) := by decide +kernel
theorem dX7_copyFrom_152 : decode cX7_copyFrom 152 = .ok (.getfield 35, 3) := by decide +kernel
theorem dX7_copyFrom_155 : decode cX7_copyFrom 155 = .ok (.iload_n 2, 1) := by decide +kernel
theorem dX7_copyFrom_156 : decode cX7_copyFrom 156 = .ok (.aaload, 1) := by decide +kernel
theorem dX7_copyFrom_157 : decode cX7_copyFrom 157 = .ok (.aload_n 1, 1) := by decide +kernel
theorem dX7_copyFrom_158 : decode cX7_copyFrom 158 = .ok (.getfield 35, 3) := by decide +kernel
theorem dX7_copyFrom_161 : decode cX7_copyFrom 161 = .ok (.iload_n 2, 1) := by decide +kernel
theorem dX7_copyFrom_162 : decode cX7_copyFrom 162 = .ok (.aaload, 1) := by decide +kernel
theorem dX7_copyFrom_163 : decode cX7_copyFrom 163 = .ok (.invokevirtual 100, 3) := by decide +kernel
theorem dX7_copyFrom_166 : decode cX7_copyFrom 166 = .ok (.iinc 2 1, 3) := by decide +kernel
theorem dX7_copyFrom_169 : decode cX7_copyFrom 169 = .ok (.goto (-26), 3) := by decide +kernel
theorem dX7_copyFrom_172 : decode cX7_copyFrom 172 = .ok (.aload_n 0, 1) := by decide +kernel
theorem dX7_copyFrom_173 : decode cX7_copyFrom 173 = .ok (.getfield 42, 3) := by decide +kernel
theorem dX7_copyFrom_176 : decode cX7_copyFrom 176 = .ok (.aload_n 1, 1) := by decide +kernel
theorem dX7_copyFrom_177 : decode cX7_copyFrom 177 = .ok (.getfield 42, 3) := by decide +kernel
theorem dX7_copyFrom_180 : decode cX7_copyFrom 180 = .ok (.invokevirtual 109, 3) := by decide +kernel
theorem dX7_copyFrom_183 : decode cX7_copyFrom 183 = .ok (.return_, 1) := by decide +kernel
set_option maxRecDepth 20000 in
theorem ggX7_copyFrom_X9_copyFrom : GoodIn wsX7_copyFrom wsX9_copyFrom := goodIn_rr wsB_X7_copyFrom_in _ [(3, 14), (3, 15), (3, 16), (3, 17), (9, 0), (9, 1), (9, 2), (9, 3)] (by decide +kernel) (by decide +kernel)
set_option maxRecDepth 20000 in
theorem gX7_copyFrom_X9_copyFrom : GoodIn wsX7_copyFrom (wsV RX7 109 RX9 yX9_copyFrom wsX9_copyFrom) := goodIn_app (goodIn_rr wsB_X7_copyFrom_in _ [(3, 10), (3, 11), (3, 12), (3, 13)] (by decide +kernel) (by decide +kernel)) ggX7_copyFrom_X9_copyFrom
set_option maxRecDepth 20000 in
theorem ggX7_copyFrom_X5_copyFrom : GoodIn wsX7_copyFrom wsX5_copyFrom := goodIn_rr wsB_X7_copyFrom_in _ [(3, 1), (3, 2), (3, 3), (3, 4), (3, 5), (3, 6), (3, 7), (3, 8), (3, 9), (8, 0), (8, 1), (8, 2), (8, 3), (8, 4), (8, 5), (8, 6), (8, 7)] (by decide +kernel) (by decide +kernel)
set_option maxRecDepth 20000 in
theorem gX7_copyFrom_X5_copyFrom : GoodIn wsX7_copyFrom (wsV RX7 100 RX5 yX5_copyFrom wsX5_copyFrom) := goodIn_app (goodIn_rr wsB_X7_copyFrom_in _ [(2, 21), (2, 22), (2, 23), (3, 0)] (by decide +kernel) (by decide +kernel)) ggX7_copyFrom_X5_copyFrom
set_option maxRecDepth 20000 in
theorem ggX7_copyFrom_X2_copyFrom : GoodIn wsX7_copyFrom wsX2_copyFrom := goodIn_rr wsB_X7_copyFrom_in _ [(2, 16), (2, 17), (2, 18), (2, 19), (2, 20), (7, 0), (7, 1), (7, 2), (7, 3)] (by decide +kernel) (by decide +kernel)
set_option maxRecDepth 20000 in
theorem gX7_copyFrom_X2_copyFrom : GoodIn wsX7_copyFrom (wsV RX7 106 RX2 yX2_copyFrom wsX2_copyFrom) := goodIn_app (goodIn_rr wsB_X7_copyFrom_in _ [(2, 12), (2, 13), (2, 14), (2, 15)] (by decide +kernel) (by decide +kernel)) ggX7_copyFrom_X2_copyFrom
set_option maxRecDepth 20000 in
theorem ggX7_copyFrom_X1_copyFrom : GoodIn wsX7_copyFrom wsX1_copyFrom := goodIn_rr wsB_X7_copyFrom_in _ [(2, 0), (2, 1), (2, 2), (2, 3), (2, 4), (2, 5), (2, 6), (2, 7), (2, 8), (2, 9), (2, 10), (2, 11), (6, 0), (6, 1), (6, 2), (6, 3), (6, 4), (6, 5), (6, 6), (6, 7), (6, 8), (6, 9), (6, 10)] (by decide +kernel) (by decide +kernel)
set_option maxRecDepth 20000 in
theorem gX7_copyFrom_X1_copyFrom : GoodIn wsX7_copyFrom (wsV RX7 97 RX1 yX1_copyFrom wsX1_copyFrom) := goodIn_app (goodIn_rr wsB_X7_copyFrom_in _ [(1, 20), (1, 21), (1, 22), (1, 23)] (by decide +kernel) (by decide +kernel)) ggX7_copyFrom_X1_copyFrom
set_option maxRecDepth 20000 in
theorem ggX7_copyFrom_X3_copyFrom : GoodIn wsX7_copyFrom wsX3_copyFrom := goodIn_rr wsB_X7_copyFrom_in _ [(1, 15), (1, 16), (1, 17), (1, 18), (1, 19), (5, 0), (5, 1), (5, 2), (5, 3)] (by decide +kernel) (by decide +kernel)
set_option maxRecDepth 20000 in
theorem gX7_copyFrom_X3_copyFrom : GoodIn wsX7_copyFrom (wsV RX7 93 RX3 yX3_copyFrom wsX3_copyFrom) := goodIn_app (goodIn_rr wsB_X7_copyFrom_in _ [(1, 11), (1, 12), (1, 13), (1, 14)] (by decide +kernel) (by decide +kernel)) ggX7_copyFrom_X3_copyFrom
theorem k_X7_copyFrom_f81 : Cond.fieldLink RX7 81 "TideLots$Shore" "pactCount" "I" ∈ wsX7_copyFrom := by decide +kernel
theorem i_X7_copyFrom_X7 : ∀ w ∈ u_ws RX7 TX7 17, w ∈ wsX7_copyFrom := by decide +kernel
theorem k_X7_copyFrom_f42 : Cond.fieldLink RX7 42 "TideLots$Shore" "sums" "LTideLots$Sums;" ∈ wsX7_copyFrom := by decide +kernel
theorem k_X7_copyFrom_f35 : Cond.fieldLink RX7 35 "TideLots$Shore" "pacts" "[LTideLots$Pact;" ∈ wsX7_copyFrom := by decide +kernel
theorem k_X7_copyFrom_f78 : Cond.fieldLink RX7 78 "TideLots$Shore" "goCount" "I" ∈ wsX7_copyFrom := by decide +kernel
theorem k_X7_copyFrom_f29 : Cond.fieldLink RX7 29 "TideLots$Shore" "goes" "[LTideLots$Go;" ∈ wsX7_copyFrom := by decide +kernel
theorem k_X7_copyFrom_f75 : Cond.fieldLink RX7 75 "TideLots$Shore" "fisherCount" "I" ∈ wsX7_copyFrom := by decide +kernel
theorem k_X7_copyFrom_f23 : Cond.fieldLink RX7 23 "TideLots$Shore" "fishers" "[LTideLots$Fisher;" ∈ wsX7_copyFrom := by decide +kernel
theorem k_X7_copyFrom_f72 : Cond.fieldLink RX7 72 "TideLots$Shore" "groundCount" "I" ∈ wsX7_copyFrom := by decide +kernel
theorem k_X7_copyFrom_f17 : Cond.fieldLink RX7 17 "TideLots$Shore" "grounds" "[LTideLots$Ground;" ∈ wsX7_copyFrom := by decide +kernel
theorem k_X7_copyFrom_f103 : Cond.fieldLink RX7 103 "TideLots$Shore" "tide" "I" ∈ wsX7_copyFrom := by decide +kernel
theorem k_X7_copyFrom_f9 : Cond.fieldLink RX7 9 "TideLots$Shore" "luck" "I" ∈ wsX7_copyFrom := by decide +kernel
abbrev rX7_copyFrom : Room := { frames := 1, cells := 0, slots := 0, locals := 22 }
noncomputable def bb_X7_copyFrom_143 (Z : Nat → Nat) (M : gMem) (x0 : Nat) (x1 : Option Nat) (x2 : Int32) : Option ((gMem × Int32) ⊕ (Unit × gMem)) :=
  ck (mT M x0 = 7) <| (if (mI M x0 5) ≤ x2 then dr x1 fun a2 => ck (mT M a2 = 7) <| dr ((mR M x0 10)) fun a5 => ck (mT M a5 = 8) <| bd (f_X9_copyFrom Z M a5 ((mR M a2 10))) fun _ M4 => oI (some ((), M4)) else dr ((mR M x0 9)) fun a8 => ck (mT M a8 = 26) <| ck (inb x2 (mL M a8)) <| dr x1 fun a11 => ck (mT M a11 = 7) <| dr ((mR M a11 9)) fun a13 => ck (mT M a13 = 26) <| ck (inb x2 (mL M a13)) <| dr ((mR M a8 x2.toNatClampNeg)) fun a17 => ck (mT M a17 = 5) <| bd (f_X5_copyFrom M a17 ((mR M a13 x2.toNatClampNeg))) fun _ M16 => some (.inl (M16, (x2 + (1 : Int32)))))
noncomputable def lp_X7_copyFrom_143 (Z : Nat → Nat) (M : gMem) (x0 : Nat) (x1 : Option Nat) (x2 : Int32) : Option (Unit × gMem) :=
  lp (fun (q : gMem × Int32) => bb_X7_copyFrom_143 Z q.1 x0 x1 q.2) (M, x2)
noncomputable def bb_X7_copyFrom_112 (Z : Nat → Nat) (M : gMem) (x0 : Nat) (x1 : Option Nat) (x2 : Int32) : Option ((gMem × Int32) ⊕ (Unit × gMem)) :=
  ck (mT M x0 = 7) <| (if (mI M x0 4) ≤ x2 then oI (lp_X7_copyFrom_143 Z M x0 x1 ((0 : Int32))) else dr ((mR M x0 8)) fun a21 => ck (mT M a21 = 25) <| ck (inb x2 (mL M a21)) <| dr x1 fun a24 => ck (mT M a24 = 7) <| dr ((mR M a24 8)) fun a26 => ck (mT M a26 = 25) <| ck (inb x2 (mL M a26)) <| dr ((mR M a21 x2.toNatClampNeg)) fun a30 => ck (mT M a30 = 2) <| bd (f_X2_copyFrom M a30 ((mR M a26 x2.toNatClampNeg))) fun _ M29 => some (.inl (M29, (x2 + (1 : Int32)))))
noncomputable def lp_X7_copyFrom_112 (Z : Nat → Nat) (M : gMem) (x0 : Nat) (x1 : Option Nat) (x2 : Int32) : Option (Unit × gMem) :=
  lp (fun (q : gMem × Int32) => bb_X7_copyFrom_112 Z q.1 x0 x1 q.2) (M, x2)
noncomputable def bb_X7_copyFrom_81 (Z : Nat → Nat) (M : gMem) (x0 : Nat) (x1 : Option Nat) (x2 : Int32) : Option ((gMem × Int32) ⊕ (Unit × gMem)) :=
  ck (mT M x0 = 7) <| (if (mI M x0 3) ≤ x2 then oI (lp_X7_copyFrom_112 Z M x0 x1 ((0 : Int32))) else dr ((mR M x0 7)) fun a34 => ck (mT M a34 = 24) <| ck (inb x2 (mL M a34)) <| dr x1 fun a37 => ck (mT M a37 = 7) <| dr ((mR M a37 7)) fun a39 => ck (mT M a39 = 24) <| ck (inb x2 (mL M a39)) <| dr ((mR M a34 x2.toNatClampNeg)) fun a43 => ck (mT M a43 = 1) <| bd (f_X1_copyFrom M a43 ((mR M a39 x2.toNatClampNeg))) fun _ M42 => some (.inl (M42, (x2 + (1 : Int32)))))
noncomputable def lp_X7_copyFrom_81 (Z : Nat → Nat) (M : gMem) (x0 : Nat) (x1 : Option Nat) (x2 : Int32) : Option (Unit × gMem) :=
  lp (fun (q : gMem × Int32) => bb_X7_copyFrom_81 Z q.1 x0 x1 q.2) (M, x2)
noncomputable def bb_X7_copyFrom_50 (Z : Nat → Nat) (M : gMem) (x0 : Nat) (x1 : Option Nat) (x2 : Int32) : Option ((gMem × Int32) ⊕ (Unit × gMem)) :=
  ck (mT M x0 = 7) <| (if (mI M x0 2) ≤ x2 then oI (lp_X7_copyFrom_81 Z M x0 x1 ((0 : Int32))) else dr ((mR M x0 6)) fun a47 => ck (mT M a47 = 23) <| ck (inb x2 (mL M a47)) <| dr x1 fun a50 => ck (mT M a50 = 7) <| dr ((mR M a50 6)) fun a52 => ck (mT M a52 = 23) <| ck (inb x2 (mL M a52)) <| dr ((mR M a47 x2.toNatClampNeg)) fun a56 => ck (mT M a56 = 3) <| bd (f_X3_copyFrom M a56 ((mR M a52 x2.toNatClampNeg))) fun _ M55 => some (.inl (M55, (x2 + (1 : Int32)))))
noncomputable def lp_X7_copyFrom_50 (Z : Nat → Nat) (M : gMem) (x0 : Nat) (x1 : Option Nat) (x2 : Int32) : Option (Unit × gMem) :=
  lp (fun (q : gMem × Int32) => bb_X7_copyFrom_50 Z q.1 x0 x1 q.2) (M, x2)
noncomputable def b_X7_copyFrom_0 (Z : Nat → Nat) (M : gMem) (x0 : Nat) (x1 : Option Nat) : Option (Unit × gMem) :=
  dr x1 fun a58 => ck (mT M a58 = 7) <| ck (mT M x0 = 7) <| lw (wI M x0 0 ((mI M a58 0))) fun M61 => lw (wI M61 x0 1 ((mI M61 a58 1))) fun M64 => lw (wI M64 x0 2 ((mI M64 a58 2))) fun M67 => lw (wI M67 x0 3 ((mI M67 a58 3))) fun M70 => lw (wI M70 x0 4 ((mI M70 a58 4))) fun M73 => lw (wI M73 x0 5 ((mI M73 a58 5))) fun M76 => lp_X7_copyFrom_50 Z M76 x0 x1 ((0 : Int32))
noncomputable def f_X7_copyFrom (Z : Nat → Nat) (M : gMem) (x0 : Nat) (x1 : Option Nat) : Option (Unit × gMem) :=
  b_X7_copyFrom_0 Z M x0 x1
set_option maxHeartbeats 4000000 in
set_option maxRecDepth 100000 in
theorem tb_X7_copyFrom_143 (X : gX p s m args meth c D cy B (gSt Z B H0) RX7 cX7_copyFrom wsX7_copyFrom 3) (hr : meth.sig.returnType = none) {Q : State → Prop} : ∀ (M : gMem) (x0 : Nat) (x1 : Option Nat) (x2 : Int32) (z : (gMem × Int32) ⊕ (Unit × gMem)), bb_X7_copyFrom_143 Z M x0 x1 x2 = some z → (Sum.elim (fun (q : gMem × Int32) => gGo p l e rX7_copyFrom s m args below meth c D cy B H0 3 0 0 Q 143 [(0, vR (some x0)), (1, vR x1), (2, vI q.2)] [] q.1) (fun (r : Unit × gMem) => Q = gMQ below D cy B H0 args s 0 0 none r.2)) z → gGo p l e rX7_copyFrom s m args below meth c D cy B H0 3 0 0 Q 143 [(0, vR (some x0)), (1, vR x1), (2, vI x2)] [] M := by
  intro M x0 x1 x2 z hf hK
  unfold bb_X7_copyFrom_143 at hf
  refine g_iload_n X dX7_copyFrom_143 rfl rfl ?_
  refine g_aload_n X dX7_copyFrom_144 rfl rfl ?_
  obtain ⟨hT1, hf⟩ := ck_e hf
  refine g_get (ci := 6) (v := vI (mI M x0 5)) 5 X cdX7 i_X7_copyFrom_X7 (by decide) k_X7_copyFrom_f81 rfl dX7_copyFrom_145 rfl hT1 rfl ?_
  refine g_icmp_ge (tgt := 172) X dX7_copyFrom_148 (by decide) (fun hc => ?_) (fun hc => ?_)
  · have hf := ife_t hc hf
    refine g_aload_n X dX7_copyFrom_172 rfl rfl ?_
    refine g_get (ci := 6) (v := vR (mR M x0 10)) 10 X cdX7 i_X7_copyFrom_X7 (by decide) k_X7_copyFrom_f42 rfl dX7_copyFrom_173 rfl hT1 rfl ?_
    refine g_aload_n X dX7_copyFrom_176 rfl rfl ?_
    obtain ⟨a2, ha2, hf⟩ := dr_e hf
    obtain ⟨hT3, hf⟩ := ck_e hf
    refine g_get (ci := 6) (v := vR (mR M a2 10)) 10 X cdX7 i_X7_copyFrom_X7 (by decide) k_X7_copyFrom_f42 rfl dX7_copyFrom_177 ha2 hT3 rfl ?_
    obtain ⟨a5, ha5, hf⟩ := dr_e hf
    obtain ⟨hT6, hf⟩ := ck_e hf
    obtain ⟨r4, M4, hq4, hf⟩ := bd_e hf
    refine g_callV (ci := 7) (b := a5) (As := [vR (mR M a2 10)]) (st := []) (v := none) (M1 := M4) X (m_X9_copyFrom l hq4) (cwV 1 X.2.2.1 gX7_copyFrom_X9_copyFrom rfl rfl rfl (by decide +kernel) ⟨Nat.le_of_ble_eq_true rfl, Nat.le_of_ble_eq_true rfl⟩) rfl rfl ha5 hT6 (by decide) rfl (Nat.le_of_ble_eq_true rfl) dX7_copyFrom_180 ⟨by decide, by decide⟩ ?_
    obtain ⟨w7, hw7, hz7⟩ := oI_e hf
    subst hz7
    have hf := hw7
    cases hf
    refine g_eqQ hK ?_
    exact g_vret X hr dX7_copyFrom_183
  · have hf := ife_f hc hf
    refine g_aload_n X dX7_copyFrom_151 rfl rfl ?_
    refine g_get (ci := 6) (v := vR (mR M x0 9)) 9 X cdX7 i_X7_copyFrom_X7 (by decide) k_X7_copyFrom_f35 rfl dX7_copyFrom_152 rfl hT1 rfl ?_
    refine g_iload_n X dX7_copyFrom_155 rfl rfl ?_
    obtain ⟨a8, ha8, hf⟩ := dr_e hf
    obtain ⟨hT9, hf⟩ := ck_e hf
    obtain ⟨hg10, hf⟩ := ck_e hf
    refine g_aald (t0 := 6) X dX7_copyFrom_156 ha8 hT9 (by decide) rfl hg10 ?_
    refine g_aload_n X dX7_copyFrom_157 rfl rfl ?_
    obtain ⟨a11, ha11, hf⟩ := dr_e hf
    obtain ⟨hT12, hf⟩ := ck_e hf
    refine g_get (ci := 6) (v := vR (mR M a11 9)) 9 X cdX7 i_X7_copyFrom_X7 (by decide) k_X7_copyFrom_f35 rfl dX7_copyFrom_158 ha11 hT12 rfl ?_
    refine g_iload_n X dX7_copyFrom_161 rfl rfl ?_
    obtain ⟨a13, ha13, hf⟩ := dr_e hf
    obtain ⟨hT14, hf⟩ := ck_e hf
    obtain ⟨hg15, hf⟩ := ck_e hf
    refine g_aald (t0 := 6) X dX7_copyFrom_162 ha13 hT14 (by decide) rfl hg15 ?_
    obtain ⟨a17, ha17, hf⟩ := dr_e hf
    obtain ⟨hT18, hf⟩ := ck_e hf
    obtain ⟨r16, M16, hq16, hf⟩ := bd_e hf
    refine g_callV (ci := 4) (b := a17) (As := [vR (mR M a13 x2.toNatClampNeg)]) (st := []) (v := none) (M1 := M16) X (m_X5_copyFrom l hq16) (cwV 1 X.2.2.1 gX7_copyFrom_X5_copyFrom rfl rfl rfl (by decide +kernel) ⟨Nat.le_of_ble_eq_true rfl, Nat.le_of_ble_eq_true rfl⟩) rfl rfl ha17 hT18 (by decide) rfl (Nat.le_of_ble_eq_true rfl) dX7_copyFrom_163 ⟨by decide, by decide⟩ ?_
    refine g_iinc (v := (1 : Int32)) (lv' := [(2, vI (x2 + (1 : Int32))), (0, vR (some x0)), (1, vR x1)]) X dX7_copyFrom_166 rfl (by decide) (by decide) rfl ?_
    refine g_goto (tgt := 143) X dX7_copyFrom_169 (by decide) ?_
    cases hf
    refine g_sub (lvsub_of _ _ [1, 2, 0] rfl) ?_
    exact hK
set_option maxHeartbeats 4000000 in
set_option maxRecDepth 100000 in
theorem tl_X7_copyFrom_143 (X : gX p s m args meth c D cy B (gSt Z B H0) RX7 cX7_copyFrom wsX7_copyFrom 3) (hr : meth.sig.returnType = none) {Q : State → Prop} : ∀ (M : gMem) (x0 : Nat) (x1 : Option Nat) (x2 : Int32) (z : Unit × gMem), lp_X7_copyFrom_143 Z M x0 x1 x2 = some z → (fun (r : Unit × gMem) => Q = gMQ below D cy B H0 args s 0 0 none r.2) z → gGo p l e rX7_copyFrom s m args below meth c D cy B H0 3 0 0 Q 143 [(0, vR (some x0)), (1, vR x1), (2, vI x2)] [] M := by
  intro M x0 x1 x2 z hf hK
  refine lp_ind (P := (fun (q : gMem × Int32) (z : Unit × gMem) => (fun (r : Unit × gMem) => Q = gMQ below D cy B H0 args s 0 0 none r.2) z → gGo p l e rX7_copyFrom s m args below meth c D cy B H0 3 0 0 Q 143 [(0, vR (some x0)), (1, vR x1), (2, vI q.2)] [] q.1)) (fun q z hq => ?_) _ _ hf hK
  intro hK
  obtain ⟨w, hw, hm⟩ := hq
  refine tb_X7_copyFrom_143 X hr _ _ _ _ w hw ?_
  cases w with
  | inl a => exact hm hK
  | inr b => cases hm; exact hK
set_option maxHeartbeats 4000000 in
set_option maxRecDepth 100000 in
theorem tb_X7_copyFrom_112 (X : gX p s m args meth c D cy B (gSt Z B H0) RX7 cX7_copyFrom wsX7_copyFrom 3) (hr : meth.sig.returnType = none) {Q : State → Prop} : ∀ (M : gMem) (x0 : Nat) (x1 : Option Nat) (x2 : Int32) (z : (gMem × Int32) ⊕ (Unit × gMem)), bb_X7_copyFrom_112 Z M x0 x1 x2 = some z → (Sum.elim (fun (q : gMem × Int32) => gGo p l e rX7_copyFrom s m args below meth c D cy B H0 3 0 0 Q 112 [(0, vR (some x0)), (1, vR x1), (2, vI q.2)] [] q.1) (fun (r : Unit × gMem) => Q = gMQ below D cy B H0 args s 0 0 none r.2)) z → gGo p l e rX7_copyFrom s m args below meth c D cy B H0 3 0 0 Q 112 [(0, vR (some x0)), (1, vR x1), (2, vI x2)] [] M := by
  intro M x0 x1 x2 z hf hK
  unfold bb_X7_copyFrom_112 at hf
  refine g_iload_n X dX7_copyFrom_112 rfl rfl ?_
  refine g_aload_n X dX7_copyFrom_113 rfl rfl ?_
  obtain ⟨hT19, hf⟩ := ck_e hf
  refine g_get (ci := 6) (v := vI (mI M x0 4)) 4 X cdX7 i_X7_copyFrom_X7 (by decide) k_X7_copyFrom_f78 rfl dX7_copyFrom_114 rfl hT19 rfl ?_
  refine g_icmp_ge (tgt := 141) X dX7_copyFrom_117 (by decide) (fun hc => ?_) (fun hc => ?_)
  · have hf := ife_t hc hf
    refine g_iconst (v := (0 : Int32)) X dX7_copyFrom_141 (by decide) ?_
    refine g_istore_n (lv' := [(2, vI (0 : Int32)), (0, vR (some x0)), (1, vR x1)]) X dX7_copyFrom_142 rfl (by decide) rfl ?_
    obtain ⟨w20, hw20, hz20⟩ := oI_e hf
    subst hz20
    have hf := hw20
    refine g_sub (lvsub_of _ _ [1, 2, 0] rfl) ?_
    exact tl_X7_copyFrom_143 X hr _ _ _ _ _ hf hK
  · have hf := ife_f hc hf
    refine g_aload_n X dX7_copyFrom_120 rfl rfl ?_
    refine g_get (ci := 6) (v := vR (mR M x0 8)) 8 X cdX7 i_X7_copyFrom_X7 (by decide) k_X7_copyFrom_f29 rfl dX7_copyFrom_121 rfl hT19 rfl ?_
    refine g_iload_n X dX7_copyFrom_124 rfl rfl ?_
    obtain ⟨a21, ha21, hf⟩ := dr_e hf
    obtain ⟨hT22, hf⟩ := ck_e hf
    obtain ⟨hg23, hf⟩ := ck_e hf
    refine g_aald (t0 := 5) X dX7_copyFrom_125 ha21 hT22 (by decide) rfl hg23 ?_
    refine g_aload_n X dX7_copyFrom_126 rfl rfl ?_
    obtain ⟨a24, ha24, hf⟩ := dr_e hf
    obtain ⟨hT25, hf⟩ := ck_e hf
    refine g_get (ci := 6) (v := vR (mR M a24 8)) 8 X cdX7 i_X7_copyFrom_X7 (by decide) k_X7_copyFrom_f29 rfl dX7_copyFrom_127 ha24 hT25 rfl ?_
    refine g_iload_n X dX7_copyFrom_130 rfl rfl ?_
    obtain ⟨a26, ha26, hf⟩ := dr_e hf
    obtain ⟨hT27, hf⟩ := ck_e hf
    obtain ⟨hg28, hf⟩ := ck_e hf
    refine g_aald (t0 := 5) X dX7_copyFrom_131 ha26 hT27 (by decide) rfl hg28 ?_
    obtain ⟨a30, ha30, hf⟩ := dr_e hf
    obtain ⟨hT31, hf⟩ := ck_e hf
    obtain ⟨r29, M29, hq29, hf⟩ := bd_e hf
    refine g_callV (ci := 1) (b := a30) (As := [vR (mR M a26 x2.toNatClampNeg)]) (st := []) (v := none) (M1 := M29) X (m_X2_copyFrom l hq29) (cwV 1 X.2.2.1 gX7_copyFrom_X2_copyFrom rfl rfl rfl (by decide +kernel) ⟨Nat.le_of_ble_eq_true rfl, Nat.le_of_ble_eq_true rfl⟩) rfl rfl ha30 hT31 (by decide) rfl (Nat.le_of_ble_eq_true rfl) dX7_copyFrom_132 ⟨by decide, by decide⟩ ?_
    refine g_iinc (v := (1 : Int32)) (lv' := [(2, vI (x2 + (1 : Int32))), (0, vR (some x0)), (1, vR x1)]) X dX7_copyFrom_135 rfl (by decide) (by decide) rfl ?_
    refine g_goto (tgt := 112) X dX7_copyFrom_138 (by decide) ?_
    cases hf
    refine g_sub (lvsub_of _ _ [1, 2, 0] rfl) ?_
    exact hK
set_option maxHeartbeats 4000000 in
set_option maxRecDepth 100000 in
theorem tl_X7_copyFrom_112 (X : gX p s m args meth c D cy B (gSt Z B H0) RX7 cX7_copyFrom wsX7_copyFrom 3) (hr : meth.sig.returnType = none) {Q : State → Prop} : ∀ (M : gMem) (x0 : Nat) (x1 : Option Nat) (x2 : Int32) (z : Unit × gMem), lp_X7_copyFrom_112 Z M x0 x1 x2 = some z → (fun (r : Unit × gMem) => Q = gMQ below D cy B H0 args s 0 0 none r.2) z → gGo p l e rX7_copyFrom s m args below meth c D cy B H0 3 0 0 Q 112 [(0, vR (some x0)), (1, vR x1), (2, vI x2)] [] M := by
  intro M x0 x1 x2 z hf hK
  refine lp_ind (P := (fun (q : gMem × Int32) (z : Unit × gMem) => (fun (r : Unit × gMem) => Q = gMQ below D cy B H0 args s 0 0 none r.2) z → gGo p l e rX7_copyFrom s m args below meth c D cy B H0 3 0 0 Q 112 [(0, vR (some x0)), (1, vR x1), (2, vI q.2)] [] q.1)) (fun q z hq => ?_) _ _ hf hK
  intro hK
  obtain ⟨w, hw, hm⟩ := hq
  refine tb_X7_copyFrom_112 X hr _ _ _ _ w hw ?_
  cases w with
  | inl a => exact hm hK
  | inr b => cases hm; exact hK
set_option maxHeartbeats 4000000 in
set_option maxRecDepth 100000 in
theorem tb_X7_copyFrom_81 (X : gX p s m args meth c D cy B (gSt Z B H0) RX7 cX7_copyFrom wsX7_copyFrom 3) (hr : meth.sig.returnType = none) {Q : State → Prop} : ∀ (M : gMem) (x0 : Nat) (x1 : Option Nat) (x2 : Int32) (z : (gMem × Int32) ⊕ (Unit × gMem)), bb_X7_copyFrom_81 Z M x0 x1 x2 = some z → (Sum.elim (fun (q : gMem × Int32) => gGo p l e rX7_copyFrom s m args below meth c D cy B H0 3 0 0 Q 81 [(0, vR (some x0)), (1, vR x1), (2, vI q.2)] [] q.1) (fun (r : Unit × gMem) => Q = gMQ below D cy B H0 args s 0 0 none r.2)) z → gGo p l e rX7_copyFrom s m args below meth c D cy B H0 3 0 0 Q 81 [(0, vR (some x0)), (1, vR x1), (2, vI x2)] [] M := by
  intro M x0 x1 x2 z hf hK
  unfold bb_X7_copyFrom_81 at hf
  refine g_iload_n X dX7_copyFrom_81 rfl rfl ?_
  refine g_aload_n X dX7_copyFrom_82 rfl rfl ?_
  obtain ⟨hT32, hf⟩ := ck_e hf
  refine g_get (ci := 6) (v := vI (mI M x0 3)) 3 X cdX7 i_X7_copyFrom_X7 (by decide) k_X7_copyFrom_f75 rfl dX7_copyFrom_83 rfl hT32 rfl ?_
  refine g_icmp_ge (tgt := 110) X dX7_copyFrom_86 (by decide) (fun hc => ?_) (fun hc => ?_)
  · have hf := ife_t hc hf
    refine g_iconst (v := (0 : Int32)) X dX7_copyFrom_110 (by decide) ?_
    refine g_istore_n (lv' := [(2, vI (0 : Int32)), (0, vR (some x0)), (1, vR x1)]) X dX7_copyFrom_111 rfl (by decide) rfl ?_
    obtain ⟨w33, hw33, hz33⟩ := oI_e hf
    subst hz33
    have hf := hw33
    refine g_sub (lvsub_of _ _ [1, 2, 0] rfl) ?_
    exact tl_X7_copyFrom_112 X hr _ _ _ _ _ hf hK
  · have hf := ife_f hc hf
    refine g_aload_n X dX7_copyFrom_89 rfl rfl ?_
    refine g_get (ci := 6) (v := vR (mR M x0 7)) 7 X cdX7 i_X7_copyFrom_X7 (by decide) k_X7_copyFrom_f23 rfl dX7_copyFrom_90 rfl hT32 rfl ?_
    refine g_iload_n X dX7_copyFrom_93 rfl rfl ?_
    obtain ⟨a34, ha34, hf⟩ := dr_e hf
    obtain ⟨hT35, hf⟩ := ck_e hf
    obtain ⟨hg36, hf⟩ := ck_e hf
    refine g_aald (t0 := 4) X dX7_copyFrom_94 ha34 hT35 (by decide) rfl hg36 ?_
    refine g_aload_n X dX7_copyFrom_95 rfl rfl ?_
    obtain ⟨a37, ha37, hf⟩ := dr_e hf
    obtain ⟨hT38, hf⟩ := ck_e hf
    refine g_get (ci := 6) (v := vR (mR M a37 7)) 7 X cdX7 i_X7_copyFrom_X7 (by decide) k_X7_copyFrom_f23 rfl dX7_copyFrom_96 ha37 hT38 rfl ?_
    refine g_iload_n X dX7_copyFrom_99 rfl rfl ?_
    obtain ⟨a39, ha39, hf⟩ := dr_e hf
    obtain ⟨hT40, hf⟩ := ck_e hf
    obtain ⟨hg41, hf⟩ := ck_e hf
    refine g_aald (t0 := 4) X dX7_copyFrom_100 ha39 hT40 (by decide) rfl hg41 ?_
    obtain ⟨a43, ha43, hf⟩ := dr_e hf
    obtain ⟨hT44, hf⟩ := ck_e hf
    obtain ⟨r42, M42, hq42, hf⟩ := bd_e hf
    refine g_callV (ci := 0) (b := a43) (As := [vR (mR M a39 x2.toNatClampNeg)]) (st := []) (v := none) (M1 := M42) X (m_X1_copyFrom l hq42) (cwV 1 X.2.2.1 gX7_copyFrom_X1_copyFrom rfl rfl rfl (by decide +kernel) ⟨Nat.le_of_ble_eq_true rfl, Nat.le_of_ble_eq_true rfl⟩) rfl rfl ha43 hT44 (by decide) rfl (Nat.le_of_ble_eq_true rfl) dX7_copyFrom_101 ⟨by decide, by decide⟩ ?_
    refine g_iinc (v := (1 : Int32)) (lv' := [(2, vI (x2 + (1 : Int32))), (0, vR (some x0)), (1, vR x1)]) X dX7_copyFrom_104 rfl (by decide) (by decide) rfl ?_
    refine g_goto (tgt := 81) X dX7_copyFrom_107 (by decide) ?_
    cases hf
    refine g_sub (lvsub_of _ _ [1, 2, 0] rfl) ?_
    exact hK
set_option maxHeartbeats 4000000 in
set_option maxRecDepth 100000 in
theorem tl_X7_copyFrom_81 (X : gX p s m args meth c D cy B (gSt Z B H0) RX7 cX7_copyFrom wsX7_copyFrom 3) (hr : meth.sig.returnType = none) {Q : State → Prop} : ∀ (M : gMem) (x0 : Nat) (x1 : Option Nat) (x2 : Int32) (z : Unit × gMem), lp_X7_copyFrom_81 Z M x0 x1 x2 = some z → (fun (r : Unit × gMem) => Q = gMQ below D cy B H0 args s 0 0 none r.2) z → gGo p l e rX7_copyFrom s m args below meth c D cy B H0 3 0 0 Q 81 [(0, vR (some x0)), (1, vR x1), (2, vI x2)] [] M := by
  intro M x0 x1 x2 z hf hK
  refine lp_ind (P := (fun (q : gMem × Int32) (z : Unit × gMem) => (fun (r : Unit × gMem) => Q = gMQ below D cy B H0 args s 0 0 none r.2) z → gGo p l e rX7_copyFrom s m args below meth c D cy B H0 3 0 0 Q 81 [(0, vR (some x0)), (1, vR x1), (2, vI q.2)] [] q.1)) (fun q z hq => ?_) _ _ hf hK
  intro hK
  obtain ⟨w, hw, hm⟩ := hq
  refine tb_X7_copyFrom_81 X hr _ _ _ _ w hw ?_
  cases w with
  | inl a => exact hm hK
  | inr b => cases hm; exact hK
set_option maxHeartbeats 4000000 in
set_option maxRecDepth 100000 in
theorem tb_X7_copyFrom_50 (X : gX p s m args meth c D cy B (gSt Z B H0) RX7 cX7_copyFrom wsX7_copyFrom 3) (hr : meth.sig.returnType = none) {Q : State → Prop} : ∀ (M : gMem) (x0 : Nat) (x1 : Option Nat) (x2 : Int32) (z : (gMem × Int32) ⊕ (Unit × gMem)), bb_X7_copyFrom_50 Z M x0 x1 x2 = some z → (Sum.elim (fun (q : gMem × Int32) => gGo p l e rX7_copyFrom s m args below meth c D cy B H0 3 0 0 Q 50 [(0, vR (some x0)), (1, vR x1), (2, vI q.2)] [] q.1) (fun (r : Unit × gMem) => Q = gMQ below D cy B H0 args s 0 0 none r.2)) z → gGo p l e rX7_copyFrom s m args below meth c D cy B H0 3 0 0 Q 50 [(0, vR (some x0)), (1, vR x1), (2, vI x2)] [] M := by
  intro M x0 x1 x2 z hf hK
  unfold bb_X7_copyFrom_50 at hf
  refine g_iload_n X dX7_copyFrom_50 rfl rfl ?_
  refine g_aload_n X dX7_copyFrom_51 rfl rfl ?_
  obtain ⟨hT45, hf⟩ := ck_e hf
  refine g_get (ci := 6) (v := vI (mI M x0 2)) 2 X cdX7 i_X7_copyFrom_X7 (by decide) k_X7_copyFrom_f72 rfl dX7_copyFrom_52 rfl hT45 rfl ?_
  refine g_icmp_ge (tgt := 79) X dX7_copyFrom_55 (by decide) (fun hc => ?_) (fun hc => ?_)
  · have hf := ife_t hc hf
    refine g_iconst (v := (0 : Int32)) X dX7_copyFrom_79 (by decide) ?_
    refine g_istore_n (lv' := [(2, vI (0 : Int32)), (0, vR (some x0)), (1, vR x1)]) X dX7_copyFrom_80 rfl (by decide) rfl ?_
    obtain ⟨w46, hw46, hz46⟩ := oI_e hf
    subst hz46
    have hf := hw46
    refine g_sub (lvsub_of _ _ [1, 2, 0] rfl) ?_
    exact tl_X7_copyFrom_81 X hr _ _ _ _ _ hf hK
  · have hf := ife_f hc hf
    refine g_aload_n X dX7_copyFrom_58 rfl rfl ?_
    refine g_get (ci := 6) (v := vR (mR M x0 6)) 6 X cdX7 i_X7_copyFrom_X7 (by decide) k_X7_copyFrom_f17 rfl dX7_copyFrom_59 rfl hT45 rfl ?_
    refine g_iload_n X dX7_copyFrom_62 rfl rfl ?_
    obtain ⟨a47, ha47, hf⟩ := dr_e hf
    obtain ⟨hT48, hf⟩ := ck_e hf
    obtain ⟨hg49, hf⟩ := ck_e hf
    refine g_aald (t0 := 3) X dX7_copyFrom_63 ha47 hT48 (by decide) rfl hg49 ?_
    refine g_aload_n X dX7_copyFrom_64 rfl rfl ?_
    obtain ⟨a50, ha50, hf⟩ := dr_e hf
    obtain ⟨hT51, hf⟩ := ck_e hf
    refine g_get (ci := 6) (v := vR (mR M a50 6)) 6 X cdX7 i_X7_copyFrom_X7 (by decide) k_X7_copyFrom_f17 rfl dX7_copyFrom_65 ha50 hT51 rfl ?_
    refine g_iload_n X dX7_copyFrom_68 rfl rfl ?_
    obtain ⟨a52, ha52, hf⟩ := dr_e hf
    obtain ⟨hT53, hf⟩ := ck_e hf
    obtain ⟨hg54, hf⟩ := ck_e hf
    refine g_aald (t0 := 3) X dX7_copyFrom_69 ha52 hT53 (by decide) rfl hg54 ?_
    obtain ⟨a56, ha56, hf⟩ := dr_e hf
    obtain ⟨hT57, hf⟩ := ck_e hf
    obtain ⟨r55, M55, hq55, hf⟩ := bd_e hf
    refine g_callV (ci := 2) (b := a56) (As := [vR (mR M a52 x2.toNatClampNeg)]) (st := []) (v := none) (M1 := M55) X (m_X3_copyFrom l hq55) (cwV 1 X.2.2.1 gX7_copyFrom_X3_copyFrom rfl rfl rfl (by decide +kernel) ⟨Nat.le_of_ble_eq_true rfl, Nat.le_of_ble_eq_true rfl⟩) rfl rfl ha56 hT57 (by decide) rfl (Nat.le_of_ble_eq_true rfl) dX7_copyFrom_70 ⟨by decide, by decide⟩ ?_
    refine g_iinc (v := (1 : Int32)) (lv' := [(2, vI (x2 + (1 : Int32))), (0, vR (some x0)), (1, vR x1)]) X dX7_copyFrom_73 rfl (by decide) (by decide) rfl ?_
    refine g_goto (tgt := 50) X dX7_copyFrom_76 (by decide) ?_
    cases hf
    refine g_sub (lvsub_of _ _ [1, 2, 0] rfl) ?_
    exact hK
set_option maxHeartbeats 4000000 in
set_option maxRecDepth 100000 in
theorem tl_X7_copyFrom_50 (X : gX p s m args meth c D cy B (gSt Z B H0) RX7 cX7_copyFrom wsX7_copyFrom 3) (hr : meth.sig.returnType = none) {Q : State → Prop} : ∀ (M : gMem) (x0 : Nat) (x1 : Option Nat) (x2 : Int32) (z : Unit × gMem), lp_X7_copyFrom_50 Z M x0 x1 x2 = some z → (fun (r : Unit × gMem) => Q = gMQ below D cy B H0 args s 0 0 none r.2) z → gGo p l e rX7_copyFrom s m args below meth c D cy B H0 3 0 0 Q 50 [(0, vR (some x0)), (1, vR x1), (2, vI x2)] [] M := by
  intro M x0 x1 x2 z hf hK
  refine lp_ind (P := (fun (q : gMem × Int32) (z : Unit × gMem) => (fun (r : Unit × gMem) => Q = gMQ below D cy B H0 args s 0 0 none r.2) z → gGo p l e rX7_copyFrom s m args below meth c D cy B H0 3 0 0 Q 50 [(0, vR (some x0)), (1, vR x1), (2, vI q.2)] [] q.1)) (fun q z hq => ?_) _ _ hf hK
  intro hK
  obtain ⟨w, hw, hm⟩ := hq
  refine tb_X7_copyFrom_50 X hr _ _ _ _ w hw ?_
  cases w with
  | inl a => exact hm hK
  | inr b => cases hm; exact hK
set_option maxHeartbeats 4000000 in
set_option maxRecDepth 100000 in
theorem t_X7_copyFrom_0 (X : gX p s m args meth c D cy B (gSt Z B H0) RX7 cX7_copyFrom wsX7_copyFrom 3) (hr : meth.sig.returnType = none) {Q : State → Prop} : ∀ (M : gMem) (x0 : Nat) (x1 : Option Nat) (z : Unit × gMem), b_X7_copyFrom_0 Z M x0 x1 = some z → (fun (r : Unit × gMem) => Q = gMQ below D cy B H0 args s 0 0 none r.2) z → gGo p l e rX7_copyFrom s m args below meth c D cy B H0 3 0 0 Q 0 [(0, vR (some x0)), (1, vR x1)] [] M := by
  intro M x0 x1 z hf hK
  unfold b_X7_copyFrom_0 at hf
  refine g_aload_n X dX7_copyFrom_0 rfl rfl ?_
  refine g_aload_n X dX7_copyFrom_1 rfl rfl ?_
  obtain ⟨a58, ha58, hf⟩ := dr_e hf
  obtain ⟨hT59, hf⟩ := ck_e hf
  refine g_get (ci := 6) (v := vI (mI M a58 0)) 0 X cdX7 i_X7_copyFrom_X7 (by decide) k_X7_copyFrom_f103 rfl dX7_copyFrom_2 ha58 hT59 rfl ?_
  obtain ⟨hT60, hf⟩ := ck_e hf
  refine g_putI (ci := 6) 0 X cdX7 i_X7_copyFrom_X7 (by decide) k_X7_copyFrom_f103 rfl dX7_copyFrom_5 rfl hT60 (Or.inl rfl) rfl rfl rfl ?_
  obtain ⟨M61, hM61, hf⟩ := lw_e hf
  rw [← hM61]
  have hT62 : mT M61 a58 = 7 := by rw [hM61]; exact hT59
  have hT63 : mT M61 x0 = 7 := by rw [hM61]; exact hT60
  refine g_aload_n X dX7_copyFrom_8 rfl rfl ?_
  refine g_aload_n X dX7_copyFrom_9 rfl rfl ?_
  refine g_get (ci := 6) (v := vI (mI M61 a58 1)) 1 X cdX7 i_X7_copyFrom_X7 (by decide) k_X7_copyFrom_f9 rfl dX7_copyFrom_10 ha58 hT62 rfl ?_
  refine g_putI (ci := 6) 1 X cdX7 i_X7_copyFrom_X7 (by decide) k_X7_copyFrom_f9 rfl dX7_copyFrom_13 rfl hT63 (Or.inl rfl) rfl rfl rfl ?_
  obtain ⟨M64, hM64, hf⟩ := lw_e hf
  rw [← hM64]
  have hT65 : mT M64 a58 = 7 := by rw [hM64]; exact hT62
  have hT66 : mT M64 x0 = 7 := by rw [hM64]; exact hT63
  refine g_aload_n X dX7_copyFrom_16 rfl rfl ?_
  refine g_aload_n X dX7_copyFrom_17 rfl rfl ?_
  refine g_get (ci := 6) (v := vI (mI M64 a58 2)) 2 X cdX7 i_X7_copyFrom_X7 (by decide) k_X7_copyFrom_f72 rfl dX7_copyFrom_18 ha58 hT65 rfl ?_
  refine g_putI (ci := 6) 2 X cdX7 i_X7_copyFrom_X7 (by decide) k_X7_copyFrom_f72 rfl dX7_copyFrom_21 rfl hT66 (Or.inl rfl) rfl rfl rfl ?_
  obtain ⟨M67, hM67, hf⟩ := lw_e hf
  rw [← hM67]
  have hT68 : mT M67 a58 = 7 := by rw [hM67]; exact hT65
  have hT69 : mT M67 x0 = 7 := by rw [hM67]; exact hT66
  refine g_aload_n X dX7_copyFrom_24 rfl rfl ?_
  refine g_aload_n X dX7_copyFrom_25 rfl rfl ?_
  refine g_get (ci := 6) (v := vI (mI M67 a58 3)) 3 X cdX7 i_X7_copyFrom_X7 (by decide) k_X7_copyFrom_f75 rfl dX7_copyFrom_26 ha58 hT68 rfl ?_
  refine g_putI (ci := 6) 3 X cdX7 i_X7_copyFrom_X7 (by decide) k_X7_copyFrom_f75 rfl dX7_copyFrom_29 rfl hT69 (Or.inl rfl) rfl rfl rfl ?_
  obtain ⟨M70, hM70, hf⟩ := lw_e hf
  rw [← hM70]
  have hT71 : mT M70 a58 = 7 := by rw [hM70]; exact hT68
  have hT72 : mT M70 x0 = 7 := by rw [hM70]; exact hT69
  refine g_aload_n X dX7_copyFrom_32 rfl rfl ?_
  refine g_aload_n X dX7_copyFrom_33 rfl rfl ?_
  refine g_get (ci := 6) (v := vI (mI M70 a58 4)) 4 X cdX7 i_X7_copyFrom_X7 (by decide) k_X7_copyFrom_f78 rfl dX7_copyFrom_34 ha58 hT71 rfl ?_
  refine g_putI (ci := 6) 4 X cdX7 i_X7_copyFrom_X7 (by decide) k_X7_copyFrom_f78 rfl dX7_copyFrom_37 rfl hT72 (Or.inl rfl) rfl rfl rfl ?_
  obtain ⟨M73, hM73, hf⟩ := lw_e hf
  rw [← hM73]
  have hT74 : mT M73 a58 = 7 := by rw [hM73]; exact hT71
  have hT75 : mT M73 x0 = 7 := by rw [hM73]; exact hT72
  refine g_aload_n X dX7_copyFrom_40 rfl rfl ?_
  refine g_aload_n X dX7_copyFrom_41 rfl rfl ?_
  refine g_get (ci := 6) (v := vI (mI M73 a58 5)) 5 X cdX7 i_X7_copyFrom_X7 (by decide) k_X7_copyFrom_f81 rfl dX7_copyFrom_42 ha58 hT74 rfl ?_
  refine g_putI (ci := 6) 5 X cdX7 i_X7_copyFrom_X7 (by decide) k_X7_copyFrom_f81 rfl dX7_copyFrom_45 rfl hT75 (Or.inl rfl) rfl rfl rfl ?_
  obtain ⟨M76, hM76, hf⟩ := lw_e hf
  rw [← hM76]
  have hT77 : mT M76 a58 = 7 := by rw [hM76]; exact hT74
  have hT78 : mT M76 x0 = 7 := by rw [hM76]; exact hT75
  refine g_iconst (v := (0 : Int32)) X dX7_copyFrom_48 (by decide) ?_
  refine g_istore_n (lv' := [(2, vI (0 : Int32)), (0, vR (some x0)), (1, vR x1)]) X dX7_copyFrom_49 rfl (by decide) rfl ?_
  refine g_sub (lvsub_of _ _ [1, 2, 0] rfl) ?_
  exact tl_X7_copyFrom_50 X hr _ _ _ _ _ hf hK
set_option maxHeartbeats 4000000 in
set_option maxRecDepth 100000 in
theorem m_X7_copyFrom (l : Launch) {D : va_G} {cy : Nat → ClassId} {B : Nat} {H0 : Heap} {Z : Nat → Nat} {M M1 : gMem} {x0 : Nat} {x1 : Option Nat} {r : Unit} (hf : f_X7_copyFrom Z M x0 x1 = some (r, M1)) : Met l yX7_copyFrom wsX7_copyFrom rX7_copyFrom (va_Pc (Value.ref x0 :: List.map gv [vR x1]) (gPre D cy B H0 (gSt Z B H0) M)) (gQ D cy B H0 none M1) 0 0 (gA B) := by
  refine Met.ofW (cc := cX7_copyFrom) (maxL := 3) (ret := none) (by decide) rfl ?_
  intro p e s m args below meth c s₁ Bd hml hv
  obtain ⟨rfl, hW, hKK, hFs⟩ := hv
  have X : gX p s m _ meth c D cy B (gSt Z B H0) RX7 cX7_copyFrom wsX7_copyFrom 3 := ⟨Bd.exec, Bd.bytes, atoms_spec (ws := wsX7_copyFrom) Bd.pre, findClass_of_methodNamed Bd.named, hml, hKK, by rw [hW.1]; exact hW.2.1, Bd.notSynchronized, hFs⟩
  have hr := Bd.returns
  rcases x1 with _ | x1
  · have hl := lv_entry ([.ref x0, .null]) (n := 3) (Nat.le_of_ble_eq_true rfl)
    show W p l e rX7_copyFrom s m _ below meth c s.heap [] 0 0 _ (entryFrame m ([.ref x0, .null] : List Value).toArray 3)
    rw [lg_entry_eq]
    generalize (lg_sl ([.ref x0, .null]) ++ List.replicate (3 - (lg_sl ([.ref x0, .null])).length) Slot.unset).toArray = ls at hl ⊢
    have hl : lv_has ls 3 (List.map gq [(0, vR (some x0)), (1, vR none)]) := hl
    exact t_X7_copyFrom_0 X hr _ _ _ _ hf rfl s.heap [] ls hW va_S.rf (lv_has_sub hl (lvsub_of _ _ [0, 1] rfl))
  · have hl := lv_entry ([.ref x0, .ref x1]) (n := 3) (Nat.le_of_ble_eq_true rfl)
    show W p l e rX7_copyFrom s m _ below meth c s.heap [] 0 0 _ (entryFrame m ([.ref x0, .ref x1] : List Value).toArray 3)
    rw [lg_entry_eq]
    generalize (lg_sl ([.ref x0, .ref x1]) ++ List.replicate (3 - (lg_sl ([.ref x0, .ref x1])).length) Slot.unset).toArray = ls at hl ⊢
    have hl : lv_has ls 3 (List.map gq [(0, vR (some x0)), (1, vR (some x1))]) := hl
    exact t_X7_copyFrom_0 X hr _ _ _ _ hf rfl s.heap [] ls hW va_S.rf (lv_has_sub hl (lvsub_of _ _ [0, 1] rfl))
end
