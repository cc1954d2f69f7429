section
variable {p : Program} {l : Launch} {e : Env} {s : State} {m : MethodId} {args : Array Value} {below : List Frame} {meth : Method} {c : Code} {D : va_G} {cy : Nat → ClassId} {B : Nat} {H0 : Heap} {Z : Nat → Nat}
/-! ## TideLots$Reader.sign()LTideLots$Sign; -/
theorem dX6_sign_0 : decode cX6_sign 0 = .ok (.aload_n 0, 1) := by decide +kernel
theorem dX6_sign_1 : decode cX6_sign 1 = .ok (.getfield 30, 3) := by decide +kernel
theorem dX6_sign_4 : decode cX6_sign 4 = .ok (.getfield 328, 3) := by decide +kernel
theorem dX6_sign_7 : decode cX6_sign 7 = .ok (.aload_n 0, 1) := by decide +kernel
theorem dX6_sign_8 : decode cX6_sign 8 = .ok (.getfield 91, 3) := by decide +kernel
theorem dX6_sign_11 : decode cX6_sign 11 = .ok (.aaload, 1) := by decide +kernel
theorem dX6_sign_12 : decode cX6_sign 12 = .ok (.areturn, 1) := by decide +kernel
theorem k_X6_sign_f30 : Cond.fieldLink RX6 30 "TideLots$Reader" "tape" "LTideLots$Tape;" ∈ wsX6_sign := by decide +kernel
theorem i_X6_sign_X6 : ∀ w ∈ u_ws RX6 TX6 9, w ∈ wsX6_sign := by decide +kernel
theorem k_X6_sign_f328 : Cond.fieldLink RX6 328 "TideLots$Tape" "signs" "[LTideLots$Sign;" ∈ wsX6_sign := by decide +kernel
theorem i_X6_sign_X10 : ∀ w ∈ u_ws RX10 TX10 6, w ∈ wsX6_sign := by decide +kernel
theorem k_X6_sign_f91 : Cond.fieldLink RX6 91 "TideLots$Reader" "at" "I" ∈ wsX6_sign := by decide +kernel
abbrev rX6_sign : Room := { frames := 0, cells := 0, slots := 0, locals := 0 }
noncomputable def b_X6_sign_0 (M : gMem) (x0 : Nat) : Option (Option Nat × gMem) :=
  ck (mT M x0 = 6) <| dr ((mR M x0 1)) fun a2 => ck (mT M a2 = 9) <| dr ((mR M a2 2)) fun a4 => ck (mT M a4 = 27) <| ck (inb (mI M x0 6) (mL M a4)) <| some ((mR M a4 ((mI M x0 6)).toNatClampNeg), M)
noncomputable def f_X6_sign (M : gMem) (x0 : Nat) : Option (Option Nat × gMem) :=
  b_X6_sign_0 M x0
set_option maxHeartbeats 4000000 in
set_option maxRecDepth 100000 in
theorem t_X6_sign_0 (X : gX p s m args meth c D cy B (gSt Z B H0) RX6 cX6_sign wsX6_sign 1) (hr : meth.sig.returnType = (some (.object "TideLots$Sign"))) {Q : State → Prop} : ∀ (M : gMem) (x0 : Nat) (z : Option Nat × gMem), b_X6_sign_0 M x0 = some z → (fun (r : Option Nat × gMem) => Q = gMQ below D cy B H0 args s 0 0 (some (vR r.1)) r.2) z → gGo p l e rX6_sign s m args below meth c D cy B H0 1 0 0 Q 0 [(0, vR (some x0))] [] M := by
  intro M x0 z hf hK
  unfold b_X6_sign_0 at hf
  refine g_aload_n X dX6_sign_0 rfl rfl ?_
  obtain ⟨hT1, hf⟩ := ck_e hf
  refine g_get (ci := 5) (v := vR (mR M x0 1)) 1 X cdX6 i_X6_sign_X6 (by decide) k_X6_sign_f30 rfl dX6_sign_1 rfl hT1 rfl ?_
  obtain ⟨a2, ha2, hf⟩ := dr_e hf
  obtain ⟨hT3, hf⟩ := ck_e hf
  refine g_get (ci := 8) (v := vR (mR M a2 2)) 2 X cdX10 i_X6_sign_X10 (by decide) k_X6_sign_f328 rfl dX6_sign_4 ha2 hT3 rfl ?_
  refine g_aload_n X dX6_sign_7 rfl rfl ?_
  refine g_get (ci := 5) (v := vI (mI M x0 6)) 6 X cdX6 i_X6_sign_X6 (by decide) k_X6_sign_f91 rfl dX6_sign_8 rfl hT1 rfl ?_
  obtain ⟨a4, ha4, hf⟩ := dr_e hf
  obtain ⟨hT5, hf⟩ := ck_e hf
  obtain ⟨hg6, hf⟩ := ck_e hf
  refine g_aald (t0 := 7) X dX6_sign_11 ha4 hT5 (by decide) rfl hg6 ?_
  cases hf
  refine g_eqQ hK ?_
  exact g_aret X hr (Or.inl ⟨_, rfl⟩) dX6_sign_12
set_option maxHeartbeats 4000000 in
set_option maxRecDepth 100000 in
theorem m_X6_sign (l : Launch) {D : va_G} {cy : Nat → ClassId} {B : Nat} {H0 : Heap} {Z : Nat → Nat} {M M1 : gMem} {x0 : Nat} {r : Option Nat} (hf : f_X6_sign M x0 = some (r, M1)) : Met l yX6_sign wsX6_sign rX6_sign (va_Pc (Value.ref x0 :: List.map gv []) (gPre D cy B H0 (gSt Z B H0) M)) (gQ D cy B H0 (some (vR r)) M1) 0 0 (gA B) := by
  refine Met.ofW (cc := cX6_sign) (maxL := 1) (ret := (some (.object "TideLots$Sign"))) (by decide) rfl ?_
  intro p e s m args below meth c s₁ Bd hml hv
  obtain ⟨rfl, hW, hKK, hFs⟩ := hv
  have X : gX p s m _ meth c D cy B (gSt Z B H0) RX6 cX6_sign wsX6_sign 1 := ⟨Bd.exec, Bd.bytes, atoms_spec (ws := wsX6_sign) Bd.pre, findClass_of_methodNamed Bd.named, hml, hKK, by rw [hW.1]; exact hW.2.1, Bd.notSynchronized, hFs⟩
  have hr := Bd.returns
  have hl := lv_entry ([.ref x0]) (n := 1) (Nat.le_of_ble_eq_true rfl)
  show W p l e rX6_sign s m _ below meth c s.heap [] 0 0 _ (entryFrame m ([.ref x0] : List Value).toArray 1)
  rw [lg_entry_eq]
  generalize (lg_sl ([.ref x0]) ++ List.replicate (1 - (lg_sl ([.ref x0])).length) Slot.unset).toArray = ls at hl ⊢
  have hl : lv_has ls 1 (List.map gq [(0, vR (some x0))]) := hl
  exact t_X6_sign_0 X hr _ _ _ hf rfl s.heap [] ls hW va_S.rf (lv_has_sub hl (lvsub_of _ _ [0] rfl))
/-! ## TideLots$Reader.noteError(I)V -/
theorem dX6_noteError_0 : decode cX6_noteError 0 = .ok (.aload_n 0, 1) := by decide +kernel
theorem dX6_noteError_1 : decode cX6_noteError 1 = .ok (.getfield 83, 3) := by decide +kernel
theorem dX6_noteError_4 : decode cX6_noteError 4 = .ok (.ifCond .ne 24, 3) := by decide +kernel
theorem dX6_noteError_7 : decode cX6_noteError 7 = .ok (.aload_n 0, 1) := by decide +kernel
theorem dX6_noteError_8 : decode cX6_noteError 8 = .ok (.iload_n 1, 1) := by decide +kernel
theorem dX6_noteError_9 : decode cX6_noteError 9 = .ok (.putfield 83, 3) := by decide +kernel
theorem dX6_noteError_12 : decode cX6_noteError 12 = .ok (.aload_n 0, 1) := by decide +kernel
theorem dX6_noteError_13 : decode cX6_noteError 13 = .ok (.aload_n 0, 1) := by decide +kernel
theorem dX6_noteError_14 : decode cX6_noteError 14 = .ok (.getfield 30, 3) := by decide +kernel
theorem dX6_noteError_17 : decode cX6_noteError 17 = .ok (.getfield 86, 3) := by decide +kernel
theorem dX6_noteError_20 : decode cX6_noteError 20 = .ok (.aload_n 0, 1) := by decide +kernel
theorem dX6_noteError_21 : decode cX6_noteError 21 = .ok (.getfield 91, 3) := by decide +kernel
theorem dX6_noteError_24 : decode cX6_noteError 24 = .ok (.iaload, 1) := by decide +kernel
theorem dX6_noteError_25 : decode cX6_noteError 25 = .ok (.putfield 9, 3) := by decide +kernel
theorem dX6_noteError_28 : decode cX6_noteError 28 = .ok (.return_, 1) := by decide +kernel
theorem k_X6_noteError_f83 : Cond.fieldLink RX6 83 "TideLots$Reader" "error" "I" ∈ wsX6_noteError := by decide +kernel
theorem i_X6_noteError_X6 : ∀ w ∈ u_ws RX6 TX6 9, w ∈ wsX6_noteError := by decide +kernel
theorem k_X6_noteError_f30 : Cond.fieldLink RX6 30 "TideLots$Reader" "tape" "LTideLots$Tape;" ∈ wsX6_noteError := by decide +kernel
theorem k_X6_noteError_f86 : Cond.fieldLink RX6 86 "TideLots$Tape" "starts" "[I" ∈ wsX6_noteError := by decide +kernel
theorem i_X6_noteError_X10 : ∀ w ∈ u_ws RX10 TX10 6, w ∈ wsX6_noteError := by decide +kernel
theorem k_X6_noteError_f91 : Cond.fieldLink RX6 91 "TideLots$Reader" "at" "I" ∈ wsX6_noteError := by decide +kernel
theorem k_X6_noteError_f9 : Cond.fieldLink RX6 9 "TideLots$Reader" "errorAt" "I" ∈ wsX6_noteError := by decide +kernel
abbrev rX6_noteError : Room := { frames := 0, cells := 0, slots := 0, locals := 0 }
noncomputable def b_X6_noteError_28 (M : gMem)  : Option (Unit × gMem) :=
  some ((), M)
noncomputable def b_X6_noteError_0 (M : gMem) (x0 : Nat) (x1 : Int32) : Option (Unit × gMem) :=
  ck (mT M x0 = 6) <| (if (mI M x0 7) = 0 then lw (wI M x0 7 x1) fun M2 => dr ((mR M2 x0 1)) fun a4 => ck (mT M2 a4 = 9) <| dr ((mR M2 a4 3)) fun a6 => ck (mT M2 a6 = 20) <| ck (inb (mI M2 x0 6) (mL M2 a6)) <| lw (wI M2 x0 0 ((mI M2 a6 ((mI M2 x0 6)).toNatClampNeg))) fun M9 => b_X6_noteError_28 M9  else b_X6_noteError_28 M )
noncomputable def f_X6_noteError (M : gMem) (x0 : Nat) (x1 : Int32) : Option (Unit × gMem) :=
  b_X6_noteError_0 M x0 x1
set_option maxHeartbeats 4000000 in
set_option maxRecDepth 100000 in
theorem t_X6_noteError_28 (X : gX p s m args meth c D cy B (gSt Z B H0) RX6 cX6_noteError wsX6_noteError 2) (hr : meth.sig.returnType = none) {Q : State → Prop} : ∀ (M : gMem)  (z : Unit × gMem), b_X6_noteError_28 M  = some z → (fun (r : Unit × gMem) => Q = gMQ below D cy B H0 args s 0 0 none r.2) z → gGo p l e rX6_noteError s m args below meth c D cy B H0 2 0 0 Q 28 [] [] M := by
  intro M  z hf hK
  unfold b_X6_noteError_28 at hf
  cases hf
  refine g_eqQ hK ?_
  exact g_vret X hr dX6_noteError_28
set_option maxHeartbeats 4000000 in
set_option maxRecDepth 100000 in
theorem t_X6_noteError_0 (X : gX p s m args meth c D cy B (gSt Z B H0) RX6 cX6_noteError wsX6_noteError 2) (hr : meth.sig.returnType = none) {Q : State → Prop} : ∀ (M : gMem) (x0 : Nat) (x1 : Int32) (z : Unit × gMem), b_X6_noteError_0 M x0 x1 = some z → (fun (r : Unit × gMem) => Q = gMQ below D cy B H0 args s 0 0 none r.2) z → gGo p l e rX6_noteError s m args below meth c D cy B H0 2 0 0 Q 0 [(0, vR (some x0)), (1, vI x1)] [] M := by
  intro M x0 x1 z hf hK
  unfold b_X6_noteError_0 at hf
  refine g_aload_n X dX6_noteError_0 rfl rfl ?_
  obtain ⟨hT1, hf⟩ := ck_e hf
  refine g_get (ci := 5) (v := vI (mI M x0 7)) 7 X cdX6 i_X6_noteError_X6 (by decide) k_X6_noteError_f83 rfl dX6_noteError_1 rfl hT1 rfl ?_
  refine g_if_ne (tgt := 28) X dX6_noteError_4 (by decide) (fun hc => ?_) (fun hc => ?_)
  · have hf := ife_f hc hf
    refine g_sub (lvsub_of _ _ [] rfl) ?_
    exact t_X6_noteError_28 X hr _  _ hf hK
  · have hf := ife_t hc hf
    refine g_aload_n X dX6_noteError_7 rfl rfl ?_
    refine g_iload_n X dX6_noteError_8 rfl rfl ?_
    refine g_putI (ci := 5) 7 X cdX6 i_X6_noteError_X6 (by decide) k_X6_noteError_f83 rfl dX6_noteError_9 rfl hT1 (Or.inl rfl) rfl rfl rfl ?_
    obtain ⟨M2, hM2, hf⟩ := lw_e hf
    rw [← hM2]
    have hT3 : mT M2 x0 = 6 := by rw [hM2]; exact hT1
    refine g_aload_n X dX6_noteError_12 rfl rfl ?_
    refine g_aload_n X dX6_noteError_13 rfl rfl ?_
    refine g_get (ci := 5) (v := vR (mR M2 x0 1)) 1 X cdX6 i_X6_noteError_X6 (by decide) k_X6_noteError_f30 rfl dX6_noteError_14 rfl hT3 rfl ?_
    obtain ⟨a4, ha4, hf⟩ := dr_e hf
    obtain ⟨hT5, hf⟩ := ck_e hf
    refine g_get (ci := 8) (v := vR (mR M2 a4 3)) 3 X cdX10 i_X6_noteError_X10 (by decide) k_X6_noteError_f86 rfl dX6_noteError_17 ha4 hT5 rfl ?_
    refine g_aload_n X dX6_noteError_20 rfl rfl ?_
    refine g_get (ci := 5) (v := vI (mI M2 x0 6)) 6 X cdX6 i_X6_noteError_X6 (by decide) k_X6_noteError_f91 rfl dX6_noteError_21 rfl hT3 rfl ?_
    obtain ⟨a6, ha6, hf⟩ := dr_e hf
    obtain ⟨hT7, hf⟩ := ck_e hf
    obtain ⟨hg8, hf⟩ := ck_e hf
    refine g_iald X dX6_noteError_24 ha6 hT7 hg8 ?_
    refine g_putI (ci := 5) 0 X cdX6 i_X6_noteError_X6 (by decide) k_X6_noteError_f9 rfl dX6_noteError_25 rfl hT3 (Or.inl rfl) rfl rfl rfl ?_
    obtain ⟨M9, hM9, hf⟩ := lw_e hf
    rw [← hM9]
    have hT10 : mT M9 x0 = 6 := by rw [hM9]; exact hT3
    have hT11 : mT M9 a4 = 9 := by rw [hM9]; exact hT5
    have hT12 : mT M9 a6 = 20 := by rw [hM9]; exact hT7
    refine g_sub (lvsub_of _ _ [] rfl) ?_
    exact t_X6_noteError_28 X hr _  _ hf hK
set_option maxHeartbeats 4000000 in
set_option maxRecDepth 100000 in
theorem m_X6_noteError (l : Launch) {D : va_G} {cy : Nat → ClassId} {B : Nat} {H0 : Heap} {Z : Nat → Nat} {M M1 : gMem} {x0 : Nat} {x1 : Int32} {r : Unit} (hf : f_X6_noteError M x0 x1 = some (r, M1)) : Met l yX6_noteError wsX6_noteError rX6_noteError (va_Pc (Value.ref x0 :: List.map gv [vI x1]) (gPre D cy B H0 (gSt Z B H0) M)) (gQ D cy B H0 none M1) 0 0 (gA B) := by
  refine Met.ofW (cc := cX6_noteError) (maxL := 2) (ret := none) (by decide) rfl ?_
  intro p e s m args below meth c s₁ Bd hml hv
  obtain ⟨rfl, hW, hKK, hFs⟩ := hv
  have X : gX p s m _ meth c D cy B (gSt Z B H0) RX6 cX6_noteError wsX6_noteError 2 := ⟨Bd.exec, Bd.bytes, atoms_spec (ws := wsX6_noteError) Bd.pre, findClass_of_methodNamed Bd.named, hml, hKK, by rw [hW.1]; exact hW.2.1, Bd.notSynchronized, hFs⟩
  have hr := Bd.returns
  have hl := lv_entry ([.ref x0, .int x1]) (n := 2) (Nat.le_of_ble_eq_true rfl)
  show W p l e rX6_noteError s m _ below meth c s.heap [] 0 0 _ (entryFrame m ([.ref x0, .int x1] : List Value).toArray 2)
  rw [lg_entry_eq]
  generalize (lg_sl ([.ref x0, .int x1]) ++ List.replicate (2 - (lg_sl ([.ref x0, .int x1])).length) Slot.unset).toArray = ls at hl ⊢
  have hl : lv_has ls 2 (List.map gq [(0, vR (some x0)), (1, vI x1)]) := hl
  exact t_X6_noteError_0 X hr _ _ _ _ hf rfl s.heap [] ls hW va_S.rf (lv_has_sub hl (lvsub_of _ _ [0, 1] rfl))
/-! ## TideLots$Reader.take(LTideLots$Sign;)Z -/
theorem dX6_take_0 : decode cX6_take 0 = .ok (.aload_n 0, 1) := by decide +kernel
theorem dX6_take_1 : decode cX6_take 1 = .ok (.getfield 91, 3) := by decide +kernel
theorem dX6_take_4 : decode cX6_take 4 = .ok (.sipush 400, 3) := by decide +kernel
theorem dX6_take_7 : decode cX6_take 7 = .ok (.if_icmp .ge 19, 3) := by decide +kernel
theorem dX6_take_10 : decode cX6_take 10 = .ok (.aload_n 0, 1) := by decide +kernel
theorem dX6_take_11 : decode cX6_take 11 = .ok (.getfield 30, 3) := by decide +kernel
theorem dX6_take_14 : decode cX6_take 14 = .ok (.getfield 328, 3) := by decide +kernel
theorem dX6_take_17 : decode cX6_take 17 = .ok (.aload_n 0, 1) := by decide +kernel
theorem dX6_take_18 : decode cX6_take 18 = .ok (.getfield 91, 3) := by decide +kernel
theorem dX6_take_21 : decode cX6_take 21 = .ok (.aaload, 1) := by decide +kernel
theorem dX6_take_22 : decode cX6_take 22 = .ok (.aload_n 1, 1) := by decide +kernel
theorem dX6_take_23 : decode cX6_take 23 = .ok (.if_acmp .eq 5, 3) := by decide +kernel
theorem dX6_take_26 : decode cX6_take 26 = .ok (.iconst 0, 1) := by decide +kernel
theorem dX6_take_27 : decode cX6_take 27 = .ok (.ireturn, 1) := by decide +kernel
theorem dX6_take_28 : decode cX6_take 28 = .ok (.aload_n 0, 1) := by decide +kernel
theorem dX6_take_29 : decode cX6_take 29 = .ok (.dup, 1) := by decide +kernel
theorem dX6_take_30 : decode cX6_take 30 = .ok (.getfield 91, 3) := by decide +kernel
theorem dX6_take_33 : decode cX6_take 33 = .ok (.iconst 1, 1) := by decide +kernel
theorem dX6_take_34 : decode cX6_take 34 = .ok (.iadd, 1) := by decide +kernel
theorem dX6_take_35 : decode cX6_take 35 = .ok (.putfield 91, 3) := by decide +kernel
theorem dX6_take_38 : decode cX6_take 38 = .ok (.iconst 1, 1) := by decide +kernel
theorem dX6_take_39 : decode cX6_take 39 = .ok (.ireturn, 1) := by decide +kernel
theorem k_X6_take_f91 : Cond.fieldLink RX6 91 "TideLots$Reader" "at" "I" ∈ wsX6_take := by decide +kernel
theorem i_X6_take_X6 : ∀ w ∈ u_ws RX6 TX6 9, w ∈ wsX6_take := by decide +kernel
theorem k_X6_take_f30 : Cond.fieldLink RX6 30 "TideLots$Reader" "tape" "LTideLots$Tape;" ∈ wsX6_take := by decide +kernel
theorem k_X6_take_f328 : Cond.fieldLink RX6 328 "TideLots$Tape" "signs" "[LTideLots$Sign;" ∈ wsX6_take := by decide +kernel
theorem i_X6_take_X10 : ∀ w ∈ u_ws RX10 TX10 6, w ∈ wsX6_take := by decide +kernel
abbrev rX6_take : Room := { frames := 0, cells := 0, slots := 0, locals := 0 }
noncomputable def b_X6_take_26 (M : gMem)  : Option (Int32 × gMem) :=
  some ((0 : Int32), M)
noncomputable def b_X6_take_0 (M : gMem) (x0 : Nat) (x1 : Option Nat) : Option (Int32 × gMem) :=
  ck (mT M x0 = 6) <| (if (400 : Int32) ≤ (mI M x0 6) then b_X6_take_26 M  else dr ((mR M x0 1)) fun a2 => ck (mT M a2 = 9) <| dr ((mR M a2 2)) fun a4 => ck (mT M a4 = 27) <| ck (inb (mI M x0 6) (mL M a4)) <| (if (mR M a4 ((mI M x0 6)).toNatClampNeg) = x1 then lw (wI M x0 6 (((mI M x0 6) + (1 : Int32)))) fun M7 => some ((1 : Int32), M7) else b_X6_take_26 M ))
noncomputable def f_X6_take (M : gMem) (x0 : Nat) (x1 : Option Nat) : Option (Int32 × gMem) :=
  b_X6_take_0 M x0 x1
set_option maxHeartbeats 4000000 in
set_option maxRecDepth 100000 in
theorem t_X6_take_26 (X : gX p s m args meth c D cy B (gSt Z B H0) RX6 cX6_take wsX6_take 2) (hr : meth.sig.returnType = (some .boolean)) {Q : State → Prop} : ∀ (M : gMem)  (z : Int32 × gMem), b_X6_take_26 M  = some z → (fun (r : Int32 × gMem) => Q = gMQ below D cy B H0 args s 0 0 (some (vI r.1)) r.2) z → gGo p l e rX6_take s m args below meth c D cy B H0 2 0 0 Q 26 [] [] M := by
  intro M  z hf hK
  unfold b_X6_take_26 at hf
  refine g_iconst (v := (0 : Int32)) X dX6_take_26 (by decide) ?_
  cases hf
  refine g_eqQ hK ?_
  exact g_zret X hr (gnb (Or.inl rfl)) dX6_take_27
set_option maxHeartbeats 4000000 in
set_option maxRecDepth 100000 in
theorem t_X6_take_0 (X : gX p s m args meth c D cy B (gSt Z B H0) RX6 cX6_take wsX6_take 2) (hr : meth.sig.returnType = (some .boolean)) {Q : State → Prop} : ∀ (M : gMem) (x0 : Nat) (x1 : Option Nat) (z : Int32 × gMem), b_X6_take_0 M x0 x1 = some z → (fun (r : Int32 × gMem) => Q = gMQ below D cy B H0 args s 0 0 (some (vI r.1)) r.2) z → gGo p l e rX6_take s m args below meth c D cy B H0 2 0 0 Q 0 [(0, vR (some x0)), (1, vR x1)] [] M := by
  intro M x0 x1 z hf hK
  unfold b_X6_take_0 at hf
  refine g_aload_n X dX6_take_0 rfl rfl ?_
  obtain ⟨hT1, hf⟩ := ck_e hf
  refine g_get (ci := 5) (v := vI (mI M x0 6)) 6 X cdX6 i_X6_take_X6 (by decide) k_X6_take_f91 rfl dX6_take_1 rfl hT1 rfl ?_
  refine g_sipush (v := (400 : Int32)) X dX6_take_4 (by decide) ?_
  refine g_icmp_ge (tgt := 26) X dX6_take_7 (by decide) (fun hc => ?_) (fun hc => ?_)
  · have hf := ife_t hc hf
    refine g_sub (lvsub_of _ _ [] rfl) ?_
    exact t_X6_take_26 X hr _  _ hf hK
  · have hf := ife_f hc hf
    refine g_aload_n X dX6_take_10 rfl rfl ?_
    refine g_get (ci := 5) (v := vR (mR M x0 1)) 1 X cdX6 i_X6_take_X6 (by decide) k_X6_take_f30 rfl dX6_take_11 rfl hT1 rfl ?_
    obtain ⟨a2, ha2, hf⟩ := dr_e hf
    obtain ⟨hT3, hf⟩ := ck_e hf
    refine g_get (ci := 8) (v := vR (mR M a2 2)) 2 X cdX10 i_X6_take_X10 (by decide) k_X6_take_f328 rfl dX6_take_14 ha2 hT3 rfl ?_
    refine g_aload_n X dX6_take_17 rfl rfl ?_
    refine g_get (ci := 5) (v := vI (mI M x0 6)) 6 X cdX6 i_X6_take_X6 (by decide) k_X6_take_f91 rfl dX6_take_18 rfl hT1 rfl ?_
    obtain ⟨a4, ha4, hf⟩ := dr_e hf
    obtain ⟨hT5, hf⟩ := ck_e hf
    obtain ⟨hg6, hf⟩ := ck_e hf
    refine g_aald (t0 := 7) X dX6_take_21 ha4 hT5 (by decide) rfl hg6 ?_
    refine g_aload_n X dX6_take_22 rfl rfl ?_
    refine g_acmp_eq (tgt := 28) X dX6_take_23 (by decide) (fun hc => ?_) (fun hc => ?_)
    · have hf := ife_t hc hf
      refine g_aload_n X dX6_take_28 rfl rfl ?_
      refine g_dup X dX6_take_29 rfl ?_
      refine g_get (ci := 5) (v := vI (mI M x0 6)) 6 X cdX6 i_X6_take_X6 (by decide) k_X6_take_f91 rfl dX6_take_30 rfl hT1 rfl ?_
      refine g_iconst (v := (1 : Int32)) X dX6_take_33 (by decide) ?_
      refine g_iadd X dX6_take_34 ?_
      refine g_putI (ci := 5) 6 X cdX6 i_X6_take_X6 (by decide) k_X6_take_f91 rfl dX6_take_35 rfl hT1 (Or.inl rfl) rfl rfl rfl ?_
      obtain ⟨M7, hM7, hf⟩ := lw_e hf
      rw [← hM7]
      have hT8 : mT M7 x0 = 6 := by rw [hM7]; exact hT1
      have hT9 : mT M7 a2 = 9 := by rw [hM7]; exact hT3
      have hT10 : mT M7 a4 = 27 := by rw [hM7]; exact hT5
      refine g_iconst (v := (1 : Int32)) X dX6_take_38 (by decide) ?_
      cases hf
      refine g_eqQ hK ?_
      exact g_zret X hr (gnb (Or.inr rfl)) dX6_take_39
    · have hf := ife_f hc hf
      refine g_sub (lvsub_of _ _ [] rfl) ?_
      exact t_X6_take_26 X hr _  _ hf hK
set_option maxHeartbeats 4000000 in
set_option maxRecDepth 100000 in
theorem m_X6_take (l : Launch) {D : va_G} {cy : Nat → ClassId} {B : Nat} {H0 : Heap} {Z : Nat → Nat} {M M1 : gMem} {x0 : Nat} {x1 : Option Nat} {r : Int32} (hf : f_X6_take M x0 x1 = some (r, M1)) : Met l yX6_take wsX6_take rX6_take (va_Pc (Value.ref x0 :: List.map gv [vR x1]) (gPre D cy B H0 (gSt Z B H0) M)) (gQ D cy B H0 (some (vI r)) M1) 0 0 (gA B) := by
  refine Met.ofW (cc := cX6_take) (maxL := 2) (ret := (some .boolean)) (by decide) rfl ?_
  intro p e s m args below meth c s₁ Bd hml hv
  obtain ⟨rfl, hW, hKK, hFs⟩ := hv
  have X : gX p s m _ meth c D cy B (gSt Z B H0) RX6 cX6_take wsX6_take 2 := ⟨Bd.exec, Bd.bytes, atoms_spec (ws := wsX6_take) Bd.pre, findClass_of_methodNamed Bd.named, hml, hKK, by rw [hW.1]; exact hW.2.1, Bd.notSynchronized, hFs⟩
  have hr := Bd.returns
  rcases x1 with _ | x1
  · have hl := lv_entry ([.ref x0, .null]) (n := 2) (Nat.le_of_ble_eq_true rfl)
    show W p l e rX6_take s m _ below meth c s.heap [] 0 0 _ (entryFrame m ([.ref x0, .null] : List Value).toArray 2)
    rw [lg_entry_eq]
    generalize (lg_sl ([.ref x0, .null]) ++ List.replicate (2 - (lg_sl ([.ref x0, .null])).length) Slot.unset).toArray = ls at hl ⊢
    have hl : lv_has ls 2 (List.map gq [(0, vR (some x0)), (1, vR none)]) := hl
    exact t_X6_take_0 X hr _ _ _ _ hf rfl s.heap [] ls hW va_S.rf (lv_has_sub hl (lvsub_of _ _ [0, 1] rfl))
  · have hl := lv_entry ([.ref x0, .ref x1]) (n := 2) (Nat.le_of_ble_eq_true rfl)
    show W p l e rX6_take s m _ below meth c s.heap [] 0 0 _ (entryFrame m ([.ref x0, .ref x1] : List Value).toArray 2)
    rw [lg_entry_eq]
    generalize (lg_sl ([.ref x0, .ref x1]) ++ List.replicate (2 - (lg_sl ([.ref x0, .ref x1])).length) Slot.unset).toArray = ls at hl ⊢
    have hl : lv_has ls 2 (List.map gq [(0, vR (some x0)), (1, vR (some x1))]) := hl
    exact t_X6_take_0 X hr _ _ _ _ hf rfl s.heap [] ls hW va_S.rf (lv_has_sub hl (lvsub_of _ _ [0, 1] rfl))
/-! ## TideLots$Reader.takeNumber(II)Z -/
theorem dX6_takeNumber_0 : decode cX6_takeNumber 0 = .ok (.aload_n 0, 1) := by decide +kernel
theorem dX6_takeNumber_1 : decode cX6_takeNumber 1 = .ok (.invokevirtual 43, 3) := by decide +kernel
theorem dX6_takeNumber_4 : decode cX6_takeNumber 4 = .ok (.getstatic 130, 3) := by decide +kernel
theorem dX6_takeNumber_7 : decode cX6_takeNumber 7 = .ok (.if_acmp .eq 5, 3) := by decide +kernel
theorem dX6_takeNumber_10 : decode cX6_takeNumber 10 = .ok (.iconst 0, 1) := by decide +kernel
theorem dX6_takeNumber_11 : decode cX6_takeNumber 11 = .ok (.ireturn, 1) := by decide +kernel
theorem dX6_takeNumber_12 : decode cX6_takeNumber 12 = .ok (.aload_n 0, 1) := by decide +kernel
theorem dX6_takeNumber_13 : decode cX6_takeNumber 13 = .ok (.aload_n 0, 1) := by decide +kernel
theorem dX6_takeNumber_14 : decode cX6_takeNumber 14 = .ok (.getfield 30, 3) := by decide +kernel
theorem dX6_takeNumber_17 : decode cX6_takeNumber 17 = .ok (.getfield 253, 3) := by decide +kernel
theorem dX6_takeNumber_20 : decode cX6_takeNumber 20 = .ok (.aload_n 0, 1) := by decide +kernel
theorem dX6_takeNumber_21 : decode cX6_takeNumber 21 = .ok (.getfield 91, 3) := by decide +kernel
theorem dX6_takeNumber_24 : decode cX6_takeNumber 24 = .ok (.laload, 1) := by decide +kernel
theorem dX6_takeNumber_25 : decode cX6_takeNumber 25 = .ok (.l2i, 1) := by decide +kernel
theorem dX6_takeNumber_26 : decode cX6_takeNumber 26 = .ok (.putfield 112, 3) := by decide +kernel
theorem dX6_takeNumber_29 : decode cX6_takeNumber 29 = .ok (.aload_n 0, 1) := by decide +kernel
theorem dX6_takeNumber_30 : decode cX6_takeNumber 30 = .ok (.getfield 112, 3) := by decide +kernel
theorem dX6_takeNumber_33 : decode cX6_takeNumber 33 = .ok (.iload_n 1, 1) := by decide +kernel
theorem dX6_takeNumber_34 : decode cX6_takeNumber 34 = .ok (.if_icmp .lt 11, 3) := by decide +kernel
theorem dX6_takeNumber_37 : decode cX6_takeNumber 37 = .ok (.aload_n 0, 1) := by decide +kernel
theorem dX6_takeNumber_38 : decode cX6_takeNumber 38 = .ok (.getfield 112, 3) := by decide +kernel
theorem dX6_takeNumber_41 : decode cX6_takeNumber 41 = .ok (.iload_n 2, 1) := by decide +kernel
theorem dX6_takeNumber_42 : decode cX6_takeNumber 42 = .ok (.if_icmp .le 8, 3) := by decide +kernel
theorem dX6_takeNumber_45 : decode cX6_takeNumber 45 = .ok (.aload_n 0, 1) := by decide +kernel
theorem dX6_takeNumber_46 : decode cX6_takeNumber 46 = .ok (.iconst 5, 1) := by decide +kernel
theorem dX6_takeNumber_47 : decode cX6_takeNumber 47 = .ok (.invokevirtual 133, 3) := by decide +kernel
theorem dX6_takeNumber_50 : decode cX6_takeNumber 50 = .ok (.aload_n 0, 1) := by decide +kernel
theorem dX6_takeNumber_51 : decode cX6_takeNumber 51 = .ok (.getstatic 130, 3) := by decide +kernel
theorem dX6_takeNumber_54 : decode cX6_takeNumber 54 = .ok (.invokevirtual 79, 3) := by decide +kernel
theorem dX6_takeNumber_57 : decode cX6_takeNumber 57 = .ok (.ireturn, 1) := by decide +kernel
set_option maxRecDepth 20000 in
theorem ggX6_takeNumber_X6_take : GoodIn wsX6_takeNumber wsX6_take := goodIn_r _ [22, 4, 2, 11, 23, 24, 25, 26, 27, 28, 29, 30, 31, 32, 33, 34, 35, 36, 37] (by decide +kernel) (by decide +kernel)
set_option maxRecDepth 20000 in
theorem gX6_takeNumber_X6_take : GoodIn wsX6_takeNumber (wsV RX6 79 RX6 yX6_take wsX6_take) := goodIn_app (goodIn_of _ (by decide +kernel)) ggX6_takeNumber_X6_take
set_option maxRecDepth 20000 in
theorem ggX6_takeNumber_X6_noteError : GoodIn wsX6_takeNumber wsX6_noteError := goodIn_r _ [15, 16, 2, 17, 4, 18, 23, 24, 25, 26, 27, 28, 29, 30, 31, 32, 33, 34, 35, 36, 37] (by decide +kernel) (by decide +kernel)
set_option maxRecDepth 20000 in
theorem gX6_takeNumber_X6_noteError : GoodIn wsX6_takeNumber (wsV RX6 133 RX6 yX6_noteError wsX6_noteError) := goodIn_app (goodIn_of _ (by decide +kernel)) ggX6_takeNumber_X6_noteError
set_option maxRecDepth 20000 in
theorem ggX6_takeNumber_X6_sign : GoodIn wsX6_takeNumber wsX6_sign := goodIn_r _ [10, 2, 11, 4, 23, 24, 25, 26, 27, 28, 29, 30, 31, 32, 33, 34, 35, 36, 37] (by decide +kernel) (by decide +kernel)
set_option maxRecDepth 20000 in
theorem gX6_takeNumber_X6_sign : GoodIn wsX6_takeNumber (wsV RX6 43 RX6 yX6_sign wsX6_sign) := goodIn_app (goodIn_of _ (by decide +kernel)) ggX6_takeNumber_X6_sign
theorem k_X6_takeNumber_f130 : Cond.fieldLink RX6 130 "TideLots$Sign" "NUMBER" "LTideLots$Sign;" ∈ wsX6_takeNumber := by decide +kernel
theorem k_X6_takeNumber_f30 : Cond.fieldLink RX6 30 "TideLots$Reader" "tape" "LTideLots$Tape;" ∈ wsX6_takeNumber := by decide +kernel
theorem i_X6_takeNumber_X6 : ∀ w ∈ u_ws RX6 TX6 9, w ∈ wsX6_takeNumber := by decide +kernel
theorem k_X6_takeNumber_f253 : Cond.fieldLink RX6 253 "TideLots$Tape" "values" "[J" ∈ wsX6_takeNumber := by decide +kernel
theorem i_X6_takeNumber_X10 : ∀ w ∈ u_ws RX10 TX10 6, w ∈ wsX6_takeNumber := by decide +kernel
theorem k_X6_takeNumber_f91 : Cond.fieldLink RX6 91 "TideLots$Reader" "at" "I" ∈ wsX6_takeNumber := by decide +kernel
theorem k_X6_takeNumber_f112 : Cond.fieldLink RX6 112 "TideLots$Reader" "number" "I" ∈ wsX6_takeNumber := by decide +kernel
abbrev rX6_takeNumber : Room := { frames := 1, cells := 0, slots := 0, locals := 21 }
noncomputable def b_X6_takeNumber_50 (Z : Nat → Nat) (M : gMem) (x0 : Nat) : Option (Int32 × gMem) :=
  ck (mT M x0 = 6) <| bd (f_X6_take M x0 ((some (Z 41)))) fun r1 M1 => ck (r1 = 0 ∨ r1 = 1) <| some (r1, M1)
noncomputable def b_X6_takeNumber_45 (Z : Nat → Nat) (M : gMem) (x0 : Nat) : Option (Int32 × gMem) :=
  ck (mT M x0 = 6) <| bd (f_X6_noteError M x0 ((5 : Int32))) fun _ M4 => b_X6_takeNumber_50 Z M4 x0
noncomputable def b_X6_takeNumber_0 (Z : Nat → Nat) (M : gMem) (x0 : Nat) (x1 : Int32) (x2 : Int32) : Option (Int32 × gMem) :=
  ck (mT M x0 = 6) <| bd (f_X6_sign M x0) fun r6 M6 => (if r6 = (some (Z 41)) then ck (mT M6 x0 = 6) <| dr ((mR M6 x0 1)) fun a9 => ck (mT M6 a9 = 9) <| dr ((mR M6 a9 4)) fun a11 => ck (mT M6 a11 = 21) <| ck (inb (mI M6 x0 6) (mL M6 a11)) <| lw (wI M6 x0 8 ((Int64.toInt32 (mJ M6 a11 ((mI M6 x0 6)).toNatClampNeg)))) fun M14 => (if (mI M14 x0 8) < x1 then b_X6_takeNumber_45 Z M14 x0 else (if (mI M14 x0 8) ≤ x2 then b_X6_takeNumber_50 Z M14 x0 else b_X6_takeNumber_45 Z M14 x0)) else some ((0 : Int32), M6))
noncomputable def f_X6_takeNumber (Z : Nat → Nat) (M : gMem) (x0 : Nat) (x1 : Int32) (x2 : Int32) : Option (Int32 × gMem) :=
  b_X6_takeNumber_0 Z M x0 x1 x2
set_option maxHeartbeats 4000000 in
set_option maxRecDepth 100000 in
theorem t_X6_takeNumber_50 (X : gX p s m args meth c D cy B (gSt Z B H0) RX6 cX6_takeNumber wsX6_takeNumber 3) (hr : meth.sig.returnType = (some .boolean)) {Q : State → Prop} : ∀ (M : gMem) (x0 : Nat) (z : Int32 × gMem), b_X6_takeNumber_50 Z M x0 = some z → (fun (r : Int32 × gMem) => Q = gMQ below D cy B H0 args s 0 0 (some (vI r.1)) r.2) z → gGo p l e rX6_takeNumber s m args below meth c D cy B H0 3 0 0 Q 50 [(0, vR (some x0))] [] M := by
  intro M x0 z hf hK
  unfold b_X6_takeNumber_50 at hf
  refine g_aload_n X dX6_takeNumber_50 rfl rfl ?_
  refine g_gets (w := vR (some (Z 41))) X (gSt_E X 41 (by decide)) k_X6_takeNumber_f130 rfl dX6_takeNumber_51 ?_
  obtain ⟨hT2, hf⟩ := ck_e hf
  obtain ⟨r1, M1, hq1, hf⟩ := bd_e hf
  refine g_callV (ci := 5) (b := x0) (As := [vR (some (Z 41))]) (st := []) (v := some (vI r1)) (M1 := M1) X (m_X6_take l hq1) (cwV 1 X.2.2.1 gX6_takeNumber_X6_take rfl rfl rfl (by decide +kernel) ⟨Nat.le_of_ble_eq_true rfl, Nat.le_of_ble_eq_true rfl⟩) rfl rfl rfl hT2 (by decide) rfl (Nat.le_of_ble_eq_true rfl) dX6_takeNumber_54 ⟨by decide, by decide⟩ ?_
  obtain ⟨hg3, hf⟩ := ck_e hf
  cases hf
  refine g_eqQ hK ?_
  exact g_zret X hr (gnb hg3) dX6_takeNumber_57
set_option maxHeartbeats 4000000 in
set_option maxRecDepth 100000 in
theorem t_X6_takeNumber_45 (X : gX p s m args meth c D cy B (gSt Z B H0) RX6 cX6_takeNumber wsX6_takeNumber 3) (hr : meth.sig.returnType = (some .boolean)) {Q : State → Prop} : ∀ (M : gMem) (x0 : Nat) (z : Int32 × gMem), b_X6_takeNumber_45 Z M x0 = some z → (fun (r : Int32 × gMem) => Q = gMQ below D cy B H0 args s 0 0 (some (vI r.1)) r.2) z → gGo p l e rX6_takeNumber s m args below meth c D cy B H0 3 0 0 Q 45 [(0, vR (some x0))] [] M := by
  intro M x0 z hf hK
  unfold b_X6_takeNumber_45 at hf
  refine g_aload_n X dX6_takeNumber_45 rfl rfl ?_
  refine g_iconst (v := (5 : Int32)) X dX6_takeNumber_46 (by decide) ?_
  obtain ⟨hT5, hf⟩ := ck_e hf
  obtain ⟨r4, M4, hq4, hf⟩ := bd_e hf
  refine g_callV (ci := 5) (b := x0) (As := [vI (5 : Int32)]) (st := []) (v := none) (M1 := M4) X (m_X6_noteError l hq4) (cwV 1 X.2.2.1 gX6_takeNumber_X6_noteError rfl rfl rfl (by decide +kernel) ⟨Nat.le_of_ble_eq_true rfl, Nat.le_of_ble_eq_true rfl⟩) rfl rfl rfl hT5 (by decide) rfl (Nat.le_of_ble_eq_true rfl) dX6_takeNumber_47 ⟨by decide, by decide⟩ ?_
  refine g_sub (lvsub_of _ _ [0] rfl) ?_
  exact t_X6_takeNumber_50 X hr _ _ _ hf hK
set_option maxHeartbeats 4000000 in
set_option maxRecDepth 100000 in
theorem t_X6_takeNumber_0 (X : gX p s m args meth c D cy B (gSt Z B H0) RX6 cX6_takeNumber wsX6_takeNumber 3) (hr : meth.sig.returnType = (some .boolean)) {Q : State → Prop} : ∀ (M : gMem) (x0 : Nat) (x1 : Int32) (x2 : Int32) (z : Int32 × gMem), b_X6_takeNumber_0 Z M x0 x1 x2 = some z → (fun (r : Int32 × gMem) => Q = gMQ below D cy B H0 args s 0 0 (some (vI r.1)) r.2) z → gGo p l e rX6_takeNumber s m args below meth c D cy B H0 3 0 0 Q 0 [(0, vR (some x0)), (1, vI x1), (2, vI x2)] [] M := by
  intro M x0 x1 x2 z hf hK
  unfold b_X6_takeNumber_0 at hf
  refine g_aload_n X dX6_takeNumber_0 rfl rfl ?_
  obtain ⟨hT7, hf⟩ := ck_e hf
  obtain ⟨r6, M6, hq6, hf⟩ := bd_e hf
  refine g_callV (ci := 5) (b := x0) (As := []) (st := []) (v := some (vR r6)) (M1 := M6) X (m_X6_sign l hq6) (cwV 0 X.2.2.1 gX6_takeNumber_X6_sign rfl rfl rfl (by decide +kernel) ⟨Nat.le_of_ble_eq_true rfl, Nat.le_of_ble_eq_true rfl⟩) rfl rfl rfl hT7 (by decide) rfl (Nat.le_of_ble_eq_true rfl) dX6_takeNumber_1 ⟨by decide, by decide⟩ ?_
  refine g_gets (w := vR (some (Z 41))) X (gSt_E X 41 (by decide)) k_X6_takeNumber_f130 rfl dX6_takeNumber_4 ?_
  refine g_acmp_eq (tgt := 12) X dX6_takeNumber_7 (by decide) (fun hc => ?_) (fun hc => ?_)
  · have hf := ife_t hc hf
    refine g_aload_n X dX6_takeNumber_12 rfl rfl ?_
    refine g_aload_n X dX6_takeNumber_13 rfl rfl ?_
    obtain ⟨hT8, hf⟩ := ck_e hf
    refine g_get (ci := 5) (v := vR (mR M6 x0 1)) 1 X cdX6 i_X6_takeNumber_X6 (by decide) k_X6_takeNumber_f30 rfl dX6_takeNumber_14 rfl hT8 rfl ?_
    obtain ⟨a9, ha9, hf⟩ := dr_e hf
    obtain ⟨hT10, hf⟩ := ck_e hf
    refine g_get (ci := 8) (v := vR (mR M6 a9 4)) 4 X cdX10 i_X6_takeNumber_X10 (by decide) k_X6_takeNumber_f253 rfl dX6_takeNumber_17 ha9 hT10 rfl ?_
    refine g_aload_n X dX6_takeNumber_20 rfl rfl ?_
    refine g_get (ci := 5) (v := vI (mI M6 x0 6)) 6 X cdX6 i_X6_takeNumber_X6 (by decide) k_X6_takeNumber_f91 rfl dX6_takeNumber_21 rfl hT8 rfl ?_
    obtain ⟨a11, ha11, hf⟩ := dr_e hf
    obtain ⟨hT12, hf⟩ := ck_e hf
    obtain ⟨hg13, hf⟩ := ck_e hf
    refine g_lald X dX6_takeNumber_24 ha11 hT12 hg13 ?_
    refine g_l2i X dX6_takeNumber_25 ?_
    refine g_putI (ci := 5) 8 X cdX6 i_X6_takeNumber_X6 (by decide) k_X6_takeNumber_f112 rfl dX6_takeNumber_26 rfl hT8 (Or.inl rfl) rfl rfl rfl ?_
    obtain ⟨M14, hM14, hf⟩ := lw_e hf
    rw [← hM14]
    have hT15 : mT M14 x0 = 6 := by rw [hM14]; exact hT8
    have hT16 : mT M14 a9 = 9 := by rw [hM14]; exact hT10
    have hT17 : mT M14 a11 = 21 := by rw [hM14]; exact hT12
    refine g_aload_n X dX6_takeNumber_29 rfl rfl ?_
    refine g_get (ci := 5) (v := vI (mI M14 x0 8)) 8 X cdX6 i_X6_takeNumber_X6 (by decide) k_X6_takeNumber_f112 rfl dX6_takeNumber_30 rfl hT15 rfl ?_
    refine g_iload_n X dX6_takeNumber_33 rfl rfl ?_
    refine g_icmp_lt (tgt := 45) X dX6_takeNumber_34 (by decide) (fun hc => ?_) (fun hc => ?_)
    · have hf := ife_t hc hf
      refine g_sub (lvsub_of _ _ [0] rfl) ?_
      exact t_X6_takeNumber_45 X hr _ _ _ hf hK
    · have hf := ife_f hc hf
      refine g_aload_n X dX6_takeNumber_37 rfl rfl ?_
      refine g_get (ci := 5) (v := vI (mI M14 x0 8)) 8 X cdX6 i_X6_takeNumber_X6 (by decide) k_X6_takeNumber_f112 rfl dX6_takeNumber_38 rfl hT15 rfl ?_
      refine g_iload_n X dX6_takeNumber_41 rfl rfl ?_
      refine g_icmp_le (tgt := 50) X dX6_takeNumber_42 (by decide) (fun hc => ?_) (fun hc => ?_)
      · have hf := ife_t hc hf
        refine g_sub (lvsub_of _ _ [0] rfl) ?_
        exact t_X6_takeNumber_50 X hr _ _ _ hf hK
      · have hf := ife_f hc hf
        refine g_sub (lvsub_of _ _ [0] rfl) ?_
        exact t_X6_takeNumber_45 X hr _ _ _ hf hK
  · have hf := ife_f hc hf
    refine g_iconst (v := (0 : Int32)) X dX6_takeNumber_10 (by decide) ?_
    cases hf
    refine g_eqQ hK ?_
    exact g_zret X hr (gnb (Or.inl rfl)) dX6_takeNumber_11
set_option maxHeartbeats 4000000 in
set_option maxRecDepth 100000 in
theorem m_X6_takeNumber (l : Launch) {D : va_G} {cy : Nat → ClassId} {B : Nat} {H0 : Heap} {Z : Nat → Nat} {M M1 : gMem} {x0 : Nat} {x1 : Int32} {x2 : Int32} {r : Int32} (hf : f_X6_takeNumber Z M x0 x1 x2 = some (r, M1)) : Met l yX6_takeNumber wsX6_takeNumber rX6_takeNumber (va_Pc (Value.ref x0 :: List.map gv [vI x1, vI x2]) (gPre D cy B H0 (gSt Z B H0) M)) (gQ D cy B H0 (some (vI r)) M1) 0 0 (gA B) := by
  refine Met.ofW (cc := cX6_takeNumber) (maxL := 3) (ret := (some .boolean)) (by decide) rfl ?_
  intro p e s m args below meth c s₁ Bd hml hv
  obtain ⟨rfl, hW, hKK, hFs⟩ := hv
  have X : gX p s m _ meth c D cy B (gSt Z B H0) RX6 cX6_takeNumber wsX6_takeNumber 3 := ⟨Bd.exec, Bd.bytes, atoms_spec (ws := wsX6_takeNumber) Bd.pre, findClass_of_methodNamed Bd.named, hml, hKK, by rw [hW.1]; exact hW.2.1, Bd.notSynchronized, hFs⟩
  have hr := Bd.returns
  have hl := lv_entry ([.ref x0, .int x1, .int x2]) (n := 3) (Nat.le_of_ble_eq_true rfl)
  show W p l e rX6_takeNumber s m _ below meth c s.heap [] 0 0 _ (entryFrame m ([.ref x0, .int x1, .int x2] : List Value).toArray 3)
  rw [lg_entry_eq]
  generalize (lg_sl ([.ref x0, .int x1, .int x2]) ++ List.replicate (3 - (lg_sl ([.ref x0, .int x1, .int x2])).length) Slot.unset).toArray = ls at hl ⊢
  have hl : lv_has ls 3 (List.map gq [(0, vR (some x0)), (1, vI x1), (2, vI x2)]) := hl
  exact t_X6_takeNumber_0 X hr _ _ _ _ _ hf rfl s.heap [] ls hW va_S.rf (lv_has_sub hl (lvsub_of _ _ [0, 1, 2] rfl))
/-! ## TideLots$Reader.takeNew(LTideLots$Names;)Z -/
theorem dX6_takeNew_0 : decode cX6_takeNew 0 = .ok (.aload_n 0, 1) := by decide +kernel
theorem dX6_takeNew_1 : decode cX6_takeNew 1 = .ok (.invokevirtual 43, 3) := by decide +kernel
theorem dX6_takeNew_4 : decode cX6_takeNew 4 = .ok (.getstatic 250, 3) := by decide +kernel
theorem dX6_takeNew_7 : decode cX6_takeNew 7 = .ok (.if_acmp .eq 5, 3) := by decide +kernel
theorem dX6_takeNew_10 : decode cX6_takeNew 10 = .ok (.iconst 0, 1) := by decide +kernel
theorem dX6_takeNew_11 : decode cX6_takeNew 11 = .ok (.ireturn, 1) := by decide +kernel
theorem dX6_takeNew_12 : decode cX6_takeNew 12 = .ok (.aload_n 0, 1) := by decide +kernel
theorem dX6_takeNew_13 : decode cX6_takeNew 13 = .ok (.getfield 30, 3) := by decide +kernel
theorem dX6_takeNew_16 : decode cX6_takeNew 16 = .ok (.getfield 253, 3) := by decide +kernel
theorem dX6_takeNew_19 : decode cX6_takeNew 19 = .ok (.aload_n 0, 1) := by decide +kernel
theorem dX6_takeNew_20 : decode cX6_takeNew 20 = .ok (.getfield 91, 3) := by decide +kernel
theorem dX6_takeNew_23 : decode cX6_takeNew 23 = .ok (.laload, 1) := by decide +kernel
theorem dX6_takeNew_24 : decode cX6_takeNew 24 = .ok (.lstore_n 2, 1) := by decide +kernel
theorem dX6_takeNew_25 : decode cX6_takeNew 25 = .ok (.aload_n 1, 1) := by decide +kernel
theorem dX6_takeNew_26 : decode cX6_takeNew 26 = .ok (.lload_n 2, 1) := by decide +kernel
theorem dX6_takeNew_27 : decode cX6_takeNew 27 = .ok (.invokevirtual 257, 3) := by decide +kernel
theorem dX6_takeNew_30 : decode cX6_takeNew 30 = .ok (.ifCond .lt 11, 3) := by decide +kernel
theorem dX6_takeNew_33 : decode cX6_takeNew 33 = .ok (.aload_n 0, 1) := by decide +kernel
theorem dX6_takeNew_34 : decode cX6_takeNew 34 = .ok (.iconst 2, 1) := by decide +kernel
theorem dX6_takeNew_35 : decode cX6_takeNew 35 = .ok (.invokevirtual 133, 3) := by decide +kernel
theorem dX6_takeNew_38 : decode cX6_takeNew 38 = .ok (.goto 16, 3) := by decide +kernel
theorem dX6_takeNew_41 : decode cX6_takeNew 41 = .ok (.aload_n 1, 1) := by decide +kernel
theorem dX6_takeNew_42 : decode cX6_takeNew 42 = .ok (.lload_n 2, 1) := by decide +kernel
theorem dX6_takeNew_43 : decode cX6_takeNew 43 = .ok (.invokevirtual 325, 3) := by decide +kernel
theorem dX6_takeNew_46 : decode cX6_takeNew 46 = .ok (.ifCond .ne 8, 3) := by decide +kernel
theorem dX6_takeNew_49 : decode cX6_takeNew 49 = .ok (.aload_n 0, 1) := by decide +kernel
theorem dX6_takeNew_50 : decode cX6_takeNew 50 = .ok (.iconst 4, 1) := by decide +kernel
theorem dX6_takeNew_51 : decode cX6_takeNew 51 = .ok (.invokevirtual 133, 3) := by decide +kernel
theorem dX6_takeNew_54 : decode cX6_takeNew 54 = .ok (.aload_n 0, 1) := by decide +kernel
theorem dX6_takeNew_55 : decode cX6_takeNew 55 = .ok (.getstatic 250, 3) := by decide +kernel
theorem dX6_takeNew_58 : decode cX6_takeNew 58 = .ok (.invokevirtual 79, 3) := by decide +kernel
theorem dX6_takeNew_61 : decode cX6_takeNew 61 = .ok (.ireturn, 1) := by decide +kernel
set_option maxRecDepth 20000 in
theorem ggX6_takeNew_X6_take : GoodIn wsX6_takeNew wsX6_take := goodIn_r _ [32, 4, 2, 10, 33, 34, 35, 36, 37, 38, 39, 40, 41, 42, 43, 44, 45, 46, 47] (by decide +kernel) (by decide +kernel)
set_option maxRecDepth 20000 in
theorem gX6_takeNew_X6_take : GoodIn wsX6_takeNew (wsV RX6 79 RX6 yX6_take wsX6_take) := goodIn_app (goodIn_of _ (by decide +kernel)) ggX6_takeNew_X6_take
set_option maxRecDepth 20000 in
theorem ggX6_takeNew_X6_sign : GoodIn wsX6_takeNew wsX6_sign := goodIn_r _ [9, 2, 10, 4, 33, 34, 35, 36, 37, 38, 39, 40, 41, 42, 43, 44, 45, 46, 47] (by decide +kernel) (by decide +kernel)
set_option maxRecDepth 20000 in
theorem gX6_takeNew_X6_sign : GoodIn wsX6_takeNew (wsV RX6 43 RX6 yX6_sign wsX6_sign) := goodIn_app (goodIn_of _ (by decide +kernel)) ggX6_takeNew_X6_sign
set_option maxRecDepth 20000 in
theorem ggX6_takeNew_X4_find : GoodIn wsX6_takeNew wsX4_find := goodIn_r _ [15, 16, 17, 48, 49] (by decide +kernel) (by decide +kernel)
set_option maxRecDepth 20000 in
theorem gX6_takeNew_X4_find : GoodIn wsX6_takeNew (wsV RX6 257 RX4 yX4_find wsX4_find) := goodIn_app (goodIn_of _ (by decide +kernel)) ggX6_takeNew_X4_find
set_option maxRecDepth 20000 in
theorem ggX6_takeNew_X4_add : GoodIn wsX6_takeNew wsX4_add := goodIn_r _ [28, 16, 17, 48, 49] (by decide +kernel) (by decide +kernel)
set_option maxRecDepth 20000 in
theorem gX6_takeNew_X4_add : GoodIn wsX6_takeNew (wsV RX6 325 RX4 yX4_add wsX4_add) := goodIn_app (goodIn_of _ (by decide +kernel)) ggX6_takeNew_X4_add
set_option maxRecDepth 20000 in
theorem ggX6_takeNew_X6_noteError : GoodIn wsX6_takeNew wsX6_noteError := goodIn_r _ [21, 22, 2, 23, 4, 24, 33, 34, 35, 36, 37, 38, 39, 40, 41, 42, 43, 44, 45, 46, 47] (by decide +kernel) (by decide +kernel)
set_option maxRecDepth 20000 in
theorem gX6_takeNew_X6_noteError : GoodIn wsX6_takeNew (wsV RX6 133 RX6 yX6_noteError wsX6_noteError) := goodIn_app (goodIn_of _ (by decide +kernel)) ggX6_takeNew_X6_noteError
theorem k_X6_takeNew_f250 : Cond.fieldLink RX6 250 "TideLots$Sign" "NAME" "LTideLots$Sign;" ∈ wsX6_takeNew := by decide +kernel
theorem k_X6_takeNew_f30 : Cond.fieldLink RX6 30 "TideLots$Reader" "tape" "LTideLots$Tape;" ∈ wsX6_takeNew := by decide +kernel
theorem i_X6_takeNew_X6 : ∀ w ∈ u_ws RX6 TX6 9, w ∈ wsX6_takeNew := by decide +kernel
theorem k_X6_takeNew_f253 : Cond.fieldLink RX6 253 "TideLots$Tape" "values" "[J" ∈ wsX6_takeNew := by decide +kernel
theorem i_X6_takeNew_X10 : ∀ w ∈ u_ws RX10 TX10 6, w ∈ wsX6_takeNew := by decide +kernel
theorem k_X6_takeNew_f91 : Cond.fieldLink RX6 91 "TideLots$Reader" "at" "I" ∈ wsX6_takeNew := by decide +kernel
abbrev rX6_takeNew : Room := { frames := 1, cells := 0, slots := 0, locals := 23 }
noncomputable def b_X6_takeNew_54 (Z : Nat → Nat) (M : gMem) (x0 : Nat) : Option (Int32 × gMem) :=
  ck (mT M x0 = 6) <| bd (f_X6_take M x0 ((some (Z 40)))) fun r1 M1 => ck (r1 = 0 ∨ r1 = 1) <| some (r1, M1)
noncomputable def b_X6_takeNew_0 (Z : Nat → Nat) (M : gMem) (x0 : Nat) (x1 : Option Nat) : Option (Int32 × gMem) :=
  ck (mT M x0 = 6) <| bd (f_X6_sign M x0) fun r4 M4 => (if r4 = (some (Z 40)) then ck (mT M4 x0 = 6) <| dr ((mR M4 x0 1)) fun a7 => ck (mT M4 a7 = 9) <| dr ((mR M4 a7 4)) fun a9 => ck (mT M4 a9 = 21) <| ck (inb (mI M4 x0 6) (mL M4 a9)) <| dr x1 fun a13 => ck (mT M4 a13 = 4) <| bd (f_X4_find M4 a13 ((mJ M4 a9 ((mI M4 x0 6)).toNatClampNeg))) fun r12 M12 => (if r12 < 0 then ck (mT M12 a13 = 4) <| bd (f_X4_add M12 a13 ((mJ M4 a9 ((mI M4 x0 6)).toNatClampNeg))) fun r15 M15 => (if r15 = 0 then ck (mT M15 x0 = 6) <| bd (f_X6_noteError M15 x0 ((4 : Int32))) fun _ M17 => b_X6_takeNew_54 Z M17 x0 else b_X6_takeNew_54 Z M15 x0) else ck (mT M12 x0 = 6) <| bd (f_X6_noteError M12 x0 ((2 : Int32))) fun _ M19 => b_X6_takeNew_54 Z M19 x0) else some ((0 : Int32), M4))
noncomputable def f_X6_takeNew (Z : Nat → Nat) (M : gMem) (x0 : Nat) (x1 : Option Nat) : Option (Int32 × gMem) :=
  b_X6_takeNew_0 Z M x0 x1
set_option maxHeartbeats 4000000 in
set_option maxRecDepth 100000 in
theorem t_X6_takeNew_54 (X : gX p s m args meth c D cy B (gSt Z B H0) RX6 cX6_takeNew wsX6_takeNew 4) (hr : meth.sig.returnType = (some .boolean)) {Q : State → Prop} : ∀ (M : gMem) (x0 : Nat) (z : Int32 × gMem), b_X6_takeNew_54 Z M x0 = some z → (fun (r : Int32 × gMem) => Q = gMQ below D cy B H0 args s 0 0 (some (vI r.1)) r.2) z → gGo p l e rX6_takeNew s m args below meth c D cy B H0 4 0 0 Q 54 [(0, vR (some x0))] [] M := by
  intro M x0 z hf hK
  unfold b_X6_takeNew_54 at hf
  refine g_aload_n X dX6_takeNew_54 rfl rfl ?_
  refine g_gets (w := vR (some (Z 40))) X (gSt_E X 40 (by decide)) k_X6_takeNew_f250 rfl dX6_takeNew_55 ?_
  obtain ⟨hT2, hf⟩ := ck_e hf
  obtain ⟨r1, M1, hq1, hf⟩ := bd_e hf
  refine g_callV (ci := 5) (b := x0) (As := [vR (some (Z 40))]) (st := []) (v := some (vI r1)) (M1 := M1) X (m_X6_take l hq1) (cwV 1 X.2.2.1 gX6_takeNew_X6_take rfl rfl rfl (by decide +kernel) ⟨Nat.le_of_ble_eq_true rfl, Nat.le_of_ble_eq_true rfl⟩) rfl rfl rfl hT2 (by decide) rfl (Nat.le_of_ble_eq_true rfl) dX6_takeNew_58 ⟨by decide, by decide⟩ ?_
  obtain ⟨hg3, hf⟩ := ck_e hf
  cases hf
  refine g_eqQ hK ?_
  exact g_zret X hr (gnb hg3) dX6_takeNew_61
set_option maxHeartbeats 4000000 in
set_option maxRecDepth 100000 in
theorem t_X6_takeNew_0 (X : gX p s m args meth c D cy B (gSt Z B H0) RX6 cX6_takeNew wsX6_takeNew 4) (hr : meth.sig.returnType = (some .boolean)) {Q : State → Prop} : ∀ (M : gMem) (x0 : Nat) (x1 : Option Nat) (z : Int32 × gMem), b_X6_takeNew_0 Z M x0 x1 = some z → (fun (r : Int32 × gMem) => Q = gMQ below D cy B H0 args s 0 0 (some (vI r.1)) r.2) z → gGo p l e rX6_takeNew s m args below meth c D cy B H0 4 0 0 Q 0 [(0, vR (some x0)), (1, vR x1)] [] M := by
  intro M x0 x1 z hf hK
  unfold b_X6_takeNew_0 at hf
  refine g_aload_n X dX6_takeNew_0 rfl rfl ?_
  obtain ⟨hT5, hf⟩ := ck_e hf
  obtain ⟨r4, M4, hq4, hf⟩ := bd_e hf
  refine g_callV (ci := 5) (b := x0) (As := []) (st := []) (v := some (vR r4)) (M1 := M4) X (m_X6_sign l hq4) (cwV 0 X.2.2.1 gX6_takeNew_X6_sign rfl rfl rfl (by decide +kernel) ⟨Nat.le_of_ble_eq_true rfl, Nat.le_of_ble_eq_true rfl⟩) rfl rfl rfl hT5 (by decide) rfl (Nat.le_of_ble_eq_true rfl) dX6_takeNew_1 ⟨by decide, by decide⟩ ?_
  refine g_gets (w := vR (some (Z 40))) X (gSt_E X 40 (by decide)) k_X6_takeNew_f250 rfl dX6_takeNew_4 ?_
  refine g_acmp_eq (tgt := 12) X dX6_takeNew_7 (by decide) (fun hc => ?_) (fun hc => ?_)
  · have hf := ife_t hc hf
    refine g_aload_n X dX6_takeNew_12 rfl rfl ?_
    obtain ⟨hT6, hf⟩ := ck_e hf
    refine g_get (ci := 5) (v := vR (mR M4 x0 1)) 1 X cdX6 i_X6_takeNew_X6 (by decide) k_X6_takeNew_f30 rfl dX6_takeNew_13 rfl hT6 rfl ?_
    obtain ⟨a7, ha7, hf⟩ := dr_e hf
    obtain ⟨hT8, hf⟩ := ck_e hf
    refine g_get (ci := 8) (v := vR (mR M4 a7 4)) 4 X cdX10 i_X6_takeNew_X10 (by decide) k_X6_takeNew_f253 rfl dX6_takeNew_16 ha7 hT8 rfl ?_
    refine g_aload_n X dX6_takeNew_19 rfl rfl ?_
    refine g_get (ci := 5) (v := vI (mI M4 x0 6)) 6 X cdX6 i_X6_takeNew_X6 (by decide) k_X6_takeNew_f91 rfl dX6_takeNew_20 rfl hT6 rfl ?_
    obtain ⟨a9, ha9, hf⟩ := dr_e hf
    obtain ⟨hT10, hf⟩ := ck_e hf
    obtain ⟨hg11, hf⟩ := ck_e hf
    refine g_lald X dX6_takeNew_23 ha9 hT10 hg11 ?_
    refine g_lstore_n (lv' := [(2, vJ (mJ M4 a9 ((mI M4 x0 6)).toNatClampNeg)), (0, vR (some x0)), (1, vR x1)]) X dX6_takeNew_24 rfl (by decide) rfl ?_
    refine g_aload_n X dX6_takeNew_25 rfl rfl ?_
    refine g_lload_n X dX6_takeNew_26 rfl rfl ?_
    obtain ⟨a13, ha13, hf⟩ := dr_e hf
    obtain ⟨hT14, hf⟩ := ck_e hf
    obtain ⟨r12, M12, hq12, hf⟩ := bd_e hf
    refine g_callV (ci := 3) (b := a13) (As := [vJ (mJ M4 a9 ((mI M4 x0 6)).toNatClampNeg)]) (st := []) (v := some (vI r12)) (M1 := M12) X (m_X4_find l hq12) (cwV 1 X.2.2.1 gX6_takeNew_X4_find rfl rfl rfl (by decide +kernel) ⟨Nat.le_of_ble_eq_true rfl, Nat.le_of_ble_eq_true rfl⟩) rfl rfl ha13 hT14 (by decide) rfl (Nat.le_of_ble_eq_true rfl) dX6_takeNew_27 ⟨by decide, by decide⟩ ?_
    refine g_if_lt (tgt := 41) X dX6_takeNew_30 (by decide) (fun hc => ?_) (fun hc => ?_)
    · have hf := ife_t hc hf
      refine g_aload_n X dX6_takeNew_41 rfl rfl ?_
      refine g_lload_n X dX6_takeNew_42 rfl rfl ?_
      obtain ⟨hT16, hf⟩ := ck_e hf
      obtain ⟨r15, M15, hq15, hf⟩ := bd_e hf
      refine g_callV (ci := 3) (b := a13) (As := [vJ (mJ M4 a9 ((mI M4 x0 6)).toNatClampNeg)]) (st := []) (v := some (vI r15)) (M1 := M15) X (m_X4_add l hq15) (cwV 1 X.2.2.1 gX6_takeNew_X4_add rfl rfl rfl (by decide +kernel) ⟨Nat.le_of_ble_eq_true rfl, Nat.le_of_ble_eq_true rfl⟩) rfl rfl ha13 hT16 (by decide) rfl (Nat.le_of_ble_eq_true rfl) dX6_takeNew_43 ⟨by decide, by decide⟩ ?_
      refine g_if_ne (tgt := 54) X dX6_takeNew_46 (by decide) (fun hc => ?_) (fun hc => ?_)
      · have hf := ife_f hc hf
        refine g_sub (lvsub_of _ _ [1] rfl) ?_
        exact t_X6_takeNew_54 X hr _ _ _ hf hK
      · have hf := ife_t hc hf
        refine g_aload_n X dX6_takeNew_49 rfl rfl ?_
        refine g_iconst (v := (4 : Int32)) X dX6_takeNew_50 (by decide) ?_
        obtain ⟨hT18, hf⟩ := ck_e hf
        obtain ⟨r17, M17, hq17, hf⟩ := bd_e hf
        refine g_callV (ci := 5) (b := x0) (As := [vI (4 : Int32)]) (st := []) (v := none) (M1 := M17) X (m_X6_noteError l hq17) (cwV 1 X.2.2.1 gX6_takeNew_X6_noteError rfl rfl rfl (by decide +kernel) ⟨Nat.le_of_ble_eq_true rfl, Nat.le_of_ble_eq_true rfl⟩) rfl rfl rfl hT18 (by decide) rfl (Nat.le_of_ble_eq_true rfl) dX6_takeNew_51 ⟨by decide, by decide⟩ ?_
        refine g_sub (lvsub_of _ _ [1] rfl) ?_
        exact t_X6_takeNew_54 X hr _ _ _ hf hK
    · have hf := ife_f hc hf
      refine g_aload_n X dX6_takeNew_33 rfl rfl ?_
      refine g_iconst (v := (2 : Int32)) X dX6_takeNew_34 (by decide) ?_
      obtain ⟨hT20, hf⟩ := ck_e hf
      obtain ⟨r19, M19, hq19, hf⟩ := bd_e hf
      refine g_callV (ci := 5) (b := x0) (As := [vI (2 : Int32)]) (st := []) (v := none) (M1 := M19) X (m_X6_noteError l hq19) (cwV 1 X.2.2.1 gX6_takeNew_X6_noteError rfl rfl rfl (by decide +kernel) ⟨Nat.le_of_ble_eq_true rfl, Nat.le_of_ble_eq_true rfl⟩) rfl rfl rfl hT20 (by decide) rfl (Nat.le_of_ble_eq_true rfl) dX6_takeNew_35 ⟨by decide, by decide⟩ ?_
      refine g_goto (tgt := 54) X dX6_takeNew_38 (by decide) ?_
      refine g_sub (lvsub_of _ _ [1] rfl) ?_
      exact t_X6_takeNew_54 X hr _ _ _ hf hK
  · have hf := ife_f hc hf
    refine g_iconst (v := (0 : Int32)) X dX6_takeNew_10 (by decide) ?_
    cases hf
    refine g_eqQ hK ?_
    exact g_zret X hr (gnb (Or.inl rfl)) dX6_takeNew_11
set_option maxHeartbeats 4000000 in
set_option maxRecDepth 100000 in
theorem m_X6_takeNew (l : Launch) {D : va_G} {cy : Nat → ClassId} {B : Nat} {H0 : Heap} {Z : Nat → Nat} {M M1 : gMem} {x0 : Nat} {x1 : Option Nat} {r : Int32} (hf : f_X6_takeNew Z M x0 x1 = some (r, M1)) : Met l yX6_takeNew wsX6_takeNew rX6_takeNew (va_Pc (Value.ref x0 :: List.map gv [vR x1]) (gPre D cy B H0 (gSt Z B H0) M)) (gQ D cy B H0 (some (vI r)) M1) 0 0 (gA B) := by
  refine Met.ofW (cc := cX6_takeNew) (maxL := 4) (ret := (some .boolean)) (by decide) rfl ?_
  intro p e s m args below meth c s₁ Bd hml hv
  obtain ⟨rfl, hW, hKK, hFs⟩ := hv
  have X : gX p s m _ meth c D cy B (gSt Z B H0) RX6 cX6_takeNew wsX6_takeNew 4 := ⟨Bd.exec, Bd.bytes, atoms_spec (ws := wsX6_takeNew) Bd.pre, findClass_of_methodNamed Bd.named, hml, hKK, by rw [hW.1]; exact hW.2.1, Bd.notSynchronized, hFs⟩
  have hr := Bd.returns
  rcases x1 with _ | x1
  · have hl := lv_entry ([.ref x0, .null]) (n := 4) (Nat.le_of_ble_eq_true rfl)
    show W p l e rX6_takeNew s m _ below meth c s.heap [] 0 0 _ (entryFrame m ([.ref x0, .null] : List Value).toArray 4)
    rw [lg_entry_eq]
    generalize (lg_sl ([.ref x0, .null]) ++ List.replicate (4 - (lg_sl ([.ref x0, .null])).length) Slot.unset).toArray = ls at hl ⊢
    have hl : lv_has ls 4 (List.map gq [(0, vR (some x0)), (1, vR none)]) := hl
    exact t_X6_takeNew_0 X hr _ _ _ _ hf rfl s.heap [] ls hW va_S.rf (lv_has_sub hl (lvsub_of _ _ [0, 1] rfl))
  · have hl := lv_entry ([.ref x0, .ref x1]) (n := 4) (Nat.le_of_ble_eq_true rfl)
    show W p l e rX6_takeNew s m _ below meth c s.heap [] 0 0 _ (entryFrame m ([.ref x0, .ref x1] : List Value).toArray 4)
    rw [lg_entry_eq]
    generalize (lg_sl ([.ref x0, .ref x1]) ++ List.replicate (4 - (lg_sl ([.ref x0, .ref x1])).length) Slot.unset).toArray = ls at hl ⊢
    have hl : lv_has ls 4 (List.map gq [(0, vR (some x0)), (1, vR (some x1))]) := hl
    exact t_X6_takeNew_0 X hr _ _ _ _ hf rfl s.heap [] ls hW va_S.rf (lv_has_sub hl (lvsub_of _ _ [0, 1] rfl))
/-! ## TideLots$Reader.takeKnown(LTideLots$Names;)Z -/
theorem dX6_takeKnown_0 : decode cX6_takeKnown 0 = .ok (.aload_n 0, 1) := by decide +kernel
theorem dX6_takeKnown_1 : decode cX6_takeKnown 1 = .ok (.invokevirtual 43, 3) := by decide +kernel
theorem dX6_takeKnown_4 : decode cX6_takeKnown 4 = .ok (.getstatic 250, 3) := by decide +kernel
theorem dX6_takeKnown_7 : decode cX6_takeKnown 7 = .ok (.if_acmp .eq 5, 3) := by decide +kernel
theorem dX6_takeKnown_10 : decode cX6_takeKnown 10 = .ok (.iconst 0, 1) := by decide +kernel
theorem dX6_takeKnown_11 : decode cX6_takeKnown 11 = .ok (.ireturn, 1) := by decide +kernel
theorem dX6_takeKnown_12 : decode cX6_takeKnown 12 = .ok (.aload_n 0, 1) := by decide +kernel
theorem dX6_takeKnown_13 : decode cX6_takeKnown 13 = .ok (.aload_n 1, 1) := by decide +kernel
theorem dX6_takeKnown_14 : decode cX6_takeKnown 14 = .ok (.aload_n 0, 1) := by decide +kernel
theorem dX6_takeKnown_15 : decode cX6_takeKnown 15 = .ok (.getfield 30, 3) := by decide +kernel
theorem dX6_takeKnown_18 : decode cX6_takeKnown 18 = .ok (.getfield 253, 3) := by decide +kernel
theorem dX6_takeKnown_21 : decode cX6_takeKnown 21 = .ok (.aload_n 0, 1) := by decide +kernel
theorem dX6_takeKnown_22 : decode cX6_takeKnown 22 = .ok (.getfield 91, 3) := by decide +kernel
theorem dX6_takeKnown_25 : decode cX6_takeKnown 25 = .ok (.laload, 1) := by decide +kernel
theorem dX6_takeKnown_26 : decode cX6_takeKnown 26 = .ok (.invokevirtual 257, 3) := by decide +kernel
theorem dX6_takeKnown_29 : decode cX6_takeKnown 29 = .ok (.putfield 112, 3) := by decide +kernel
theorem dX6_takeKnown_32 : decode cX6_takeKnown 32 = .ok (.aload_n 0, 1) := by decide +kernel
theorem dX6_takeKnown_33 : decode cX6_takeKnown 33 = .ok (.getfield 112, 3) := by decide +kernel
theorem dX6_takeKnown_36 : decode cX6_takeKnown 36 = .ok (.ifCond .ge 13, 3) := by decide +kernel
theorem dX6_takeKnown_39 : decode cX6_takeKnown 39 = .ok (.aload_n 0, 1) := by decide +kernel
theorem dX6_takeKnown_40 : decode cX6_takeKnown 40 = .ok (.iconst 3, 1) := by decide +kernel
theorem dX6_takeKnown_41 : decode cX6_takeKnown 41 = .ok (.invokevirtual 133, 3) := by decide +kernel
theorem dX6_takeKnown_44 : decode cX6_takeKnown 44 = .ok (.aload_n 0, 1) := by decide +kernel
theorem dX6_takeKnown_45 : decode cX6_takeKnown 45 = .ok (.iconst 0, 1) := by decide +kernel
theorem dX6_takeKnown_46 : decode cX6_takeKnown 46 = .ok (.putfield 112, 3) := by decide +kernel
theorem dX6_takeKnown_49 : decode cX6_takeKnown 49 = .ok (.aload_n 0, 1) := by decide +kernel
theorem dX6_takeKnown_50 : decode cX6_takeKnown 50 = .ok (.getstatic 250, 3) := by decide +kernel
theorem dX6_takeKnown_53 : decode cX6_takeKnown 53 = .ok (.invokevirtual 79, 3) := by decide +kernel
theorem dX6_takeKnown_56 : decode cX6_takeKnown 56 = .ok (.ireturn, 1) := by decide +kernel
set_option maxRecDepth 20000 in
theorem ggX6_takeKnown_X6_take : GoodIn wsX6_takeKnown wsX6_take := goodIn_r _ [29, 4, 2, 11, 30, 31, 32, 33, 34, 35, 36, 37, 38, 39, 40, 41, 42, 43, 44] (by decide +kernel) (by decide +kernel)
set_option maxRecDepth 20000 in
theorem gX6_takeKnown_X6_take : GoodIn wsX6_takeKnown (wsV RX6 79 RX6 yX6_take wsX6_take) := goodIn_app (goodIn_of _ (by decide +kernel)) ggX6_takeKnown_X6_take
set_option maxRecDepth 20000 in
theorem ggX6_takeKnown_X6_sign : GoodIn wsX6_takeKnown wsX6_sign := goodIn_r _ [10, 2, 11, 4, 30, 31, 32, 33, 34, 35, 36, 37, 38, 39, 40, 41, 42, 43, 44] (by decide +kernel) (by decide +kernel)
set_option maxRecDepth 20000 in
theorem gX6_takeKnown_X6_sign : GoodIn wsX6_takeKnown (wsV RX6 43 RX6 yX6_sign wsX6_sign) := goodIn_app (goodIn_of _ (by decide +kernel)) ggX6_takeKnown_X6_sign
set_option maxRecDepth 20000 in
theorem ggX6_takeKnown_X4_find : GoodIn wsX6_takeKnown wsX4_find := goodIn_r _ [16, 17, 18, 45, 46] (by decide +kernel) (by decide +kernel)
set_option maxRecDepth 20000 in
theorem gX6_takeKnown_X4_find : GoodIn wsX6_takeKnown (wsV RX6 257 RX4 yX4_find wsX4_find) := goodIn_app (goodIn_of _ (by decide +kernel)) ggX6_takeKnown_X4_find
set_option maxRecDepth 20000 in
theorem ggX6_takeKnown_X6_noteError : GoodIn wsX6_takeKnown wsX6_noteError := goodIn_r _ [22, 23, 2, 24, 4, 25, 30, 31, 32, 33, 34, 35, 36, 37, 38, 39, 40, 41, 42, 43, 44] (by decide +kernel) (by decide +kernel)
set_option maxRecDepth 20000 in
theorem gX6_takeKnown_X6_noteError : GoodIn wsX6_takeKnown (wsV RX6 133 RX6 yX6_noteError wsX6_noteError) := goodIn_app (goodIn_of _ (by decide +kernel)) ggX6_takeKnown_X6_noteError
theorem k_X6_takeKnown_f250 : Cond.fieldLink RX6 250 "TideLots$Sign" "NAME" "LTideLots$Sign;" ∈ wsX6_takeKnown := by decide +kernel
theorem k_X6_takeKnown_f30 : Cond.fieldLink RX6 30 "TideLots$Reader" "tape" "LTideLots$Tape;" ∈ wsX6_takeKnown := by decide +kernel
theorem i_X6_takeKnown_X6 : ∀ w ∈ u_ws RX6 TX6 9, w ∈ wsX6_takeKnown := by decide +kernel
theorem k_X6_takeKnown_f253 : Cond.fieldLink RX6 253 "TideLots$Tape" "values" "[J" ∈ wsX6_takeKnown := by decide +kernel
theorem i_X6_takeKnown_X10 : ∀ w ∈ u_ws RX10 TX10 6, w ∈ wsX6_takeKnown := by decide +kernel
theorem k_X6_takeKnown_f91 : Cond.fieldLink RX6 91 "TideLots$Reader" "at" "I" ∈ wsX6_takeKnown := by decide +kernel
theorem k_X6_takeKnown_f112 : Cond.fieldLink RX6 112 "TideLots$Reader" "number" "I" ∈ wsX6_takeKnown := by decide +kernel
abbrev rX6_takeKnown : Room := { frames := 1, cells := 0, slots := 0, locals := 23 }
noncomputable def b_X6_takeKnown_49 (Z : Nat → Nat) (M : gMem) (x0 : Nat) : Option (Int32 × gMem) :=
  ck (mT M x0 = 6) <| bd (f_X6_take M x0 ((some (Z 40)))) fun r1 M1 => ck (r1 = 0 ∨ r1 = 1) <| some (r1, M1)
noncomputable def b_X6_takeKnown_0 (Z : Nat → Nat) (M : gMem) (x0 : Nat) (x1 : Option Nat) : Option (Int32 × gMem) :=
  ck (mT M x0 = 6) <| bd (f_X6_sign M x0) fun r4 M4 => (if r4 = (some (Z 40)) then ck (mT M4 x0 = 6) <| dr ((mR M4 x0 1)) fun a7 => ck (mT M4 a7 = 9) <| dr ((mR M4 a7 4)) fun a9 => ck (mT M4 a9 = 21) <| ck (inb (mI M4 x0 6) (mL M4 a9)) <| dr x1 fun a13 => ck (mT M4 a13 = 4) <| bd (f_X4_find M4 a13 ((mJ M4 a9 ((mI M4 x0 6)).toNatClampNeg))) fun r12 M12 => ck (mT M12 x0 = 6) <| lw (wI M12 x0 8 r12) fun M16 => (if 0 ≤ (mI M16 x0 8) then b_X6_takeKnown_49 Z M16 x0 else bd (f_X6_noteError M16 x0 ((3 : Int32))) fun _ M18 => ck (mT M18 x0 = 6) <| lw (wI M18 x0 8 ((0 : Int32))) fun M20 => b_X6_takeKnown_49 Z M20 x0) else some ((0 : Int32), M4))
noncomputable def f_X6_takeKnown (Z : Nat → Nat) (M : gMem) (x0 : Nat) (x1 : Option Nat) : Option (Int32 × gMem) :=
  b_X6_takeKnown_0 Z M x0 x1
set_option maxHeartbeats 4000000 in
set_option maxRecDepth 100000 in
theorem t_X6_takeKnown_49 (X : gX p s m args meth c D cy B (gSt Z B H0) RX6 cX6_takeKnown wsX6_takeKnown 2) (hr : meth.sig.returnType = (some .boolean)) {Q : State → Prop} : ∀ (M : gMem) (x0 : Nat) (z : Int32 × gMem), b_X6_takeKnown_49 Z M x0 = some z → (fun (r : Int32 × gMem) => Q = gMQ below D cy B H0 args s 0 0 (some (vI r.1)) r.2) z → gGo p l e rX6_takeKnown s m args below meth c D cy B H0 2 0 0 Q 49 [(0, vR (some x0))] [] M := by
  intro M x0 z hf hK
  unfold b_X6_takeKnown_49 at hf
  refine g_aload_n X dX6_takeKnown_49 rfl rfl ?_
  refine g_gets (w := vR (some (Z 40))) X (gSt_E X 40 (by decide)) k_X6_takeKnown_f250 rfl dX6_takeKnown_50 ?_
  obtain ⟨hT2, hf⟩ := ck_e hf
  obtain ⟨r1, M1, hq1, hf⟩ := bd_e hf
  refine g_callV (ci := 5) (b := x0) (As := [vR (some (Z 40))]) (st := []) (v := some (vI r1)) (M1 := M1) X (m_X6_take l hq1) (cwV 1 X.2.2.1 gX6_takeKnown_X6_take rfl rfl rfl (by decide +kernel) ⟨Nat.le_of_ble_eq_true rfl, Nat.le_of_ble_eq_true rfl⟩) rfl rfl rfl hT2 (by decide) rfl (Nat.le_of_ble_eq_true rfl) dX6_takeKnown_53 ⟨by decide, by decide⟩ ?_
  obtain ⟨hg3, hf⟩ := ck_e hf
  cases hf
  refine g_eqQ hK ?_
  exact g_zret X hr (gnb hg3) dX6_takeKnown_56
set_option maxHeartbeats 4000000 in
set_option maxRecDepth 100000 in
theorem t_X6_takeKnown_0 (X : gX p s m args meth c D cy B (gSt Z B H0) RX6 cX6_takeKnown wsX6_takeKnown 2) (hr : meth.sig.returnType = (some .boolean)) {Q : State → Prop} : ∀ (M : gMem) (x0 : Nat) (x1 : Option Nat) (z : Int32 × gMem), b_X6_takeKnown_0 Z M x0 x1 = some z → (fun (r : Int32 × gMem) => Q = gMQ below D cy B H0 args s 0 0 (some (vI r.1)) r.2) z → gGo p l e rX6_takeKnown s m args below meth c D cy B H0 2 0 0 Q 0 [(0, vR (some x0)), (1, vR x1)] [] M := by
  intro M x0 x1 z hf hK
  unfold b_X6_takeKnown_0 at hf
  refine g_aload_n X dX6_takeKnown_0 rfl rfl ?_
  obtain ⟨hT5, hf⟩ := ck_e hf
  obtain ⟨r4, M4, hq4, hf⟩ := bd_e hf
  refine g_callV (ci := 5) (b := x0) (As := []) (st := []) (v := some (vR r4)) (M1 := M4) X (m_X6_sign l hq4) (cwV 0 X.2.2.1 gX6_takeKnown_X6_sign rfl rfl rfl (by decide +kernel) ⟨Nat.le_of_ble_eq_true rfl, Nat.le_of_ble_eq_true rfl⟩) rfl rfl rfl hT5 (by decide) rfl (Nat.le_of_ble_eq_true rfl) dX6_takeKnown_1 ⟨by decide, by decide⟩ ?_
  refine g_gets (w := vR (some (Z 40))) X (gSt_E X 40 (by decide)) k_X6_takeKnown_f250 rfl dX6_takeKnown_4 ?_
  refine g_acmp_eq (tgt := 12) X dX6_takeKnown_7 (by decide) (fun hc => ?_) (fun hc => ?_)
  · have hf := ife_t hc hf
    refine g_aload_n X dX6_takeKnown_12 rfl rfl ?_
    refine g_aload_n X dX6_takeKnown_13 rfl rfl ?_
    refine g_aload_n X dX6_takeKnown_14 rfl rfl ?_
    obtain ⟨hT6, hf⟩ := ck_e hf
    refine g_get (ci := 5) (v := vR (mR M4 x0 1)) 1 X cdX6 i_X6_takeKnown_X6 (by decide) k_X6_takeKnown_f30 rfl dX6_takeKnown_15 rfl hT6 rfl ?_
    obtain ⟨a7, ha7, hf⟩ := dr_e hf
    obtain ⟨hT8, hf⟩ := ck_e hf
    refine g_get (ci := 8) (v := vR (mR M4 a7 4)) 4 X cdX10 i_X6_takeKnown_X10 (by decide) k_X6_takeKnown_f253 rfl dX6_takeKnown_18 ha7 hT8 rfl ?_
    refine g_aload_n X dX6_takeKnown_21 rfl rfl ?_
    refine g_get (ci := 5) (v := vI (mI M4 x0 6)) 6 X cdX6 i_X6_takeKnown_X6 (by decide) k_X6_takeKnown_f91 rfl dX6_takeKnown_22 rfl hT6 rfl ?_
    obtain ⟨a9, ha9, hf⟩ := dr_e hf
    obtain ⟨hT10, hf⟩ := ck_e hf
    obtain ⟨hg11, hf⟩ := ck_e hf
    refine g_lald X dX6_takeKnown_25 ha9 hT10 hg11 ?_
    obtain ⟨a13, ha13, hf⟩ := dr_e hf
    obtain ⟨hT14, hf⟩ := ck_e hf
    obtain ⟨r12, M12, hq12, hf⟩ := bd_e hf
    refine g_callV (ci := 3) (b := a13) (As := [vJ (mJ M4 a9 ((mI M4 x0 6)).toNatClampNeg)]) (st := [vR (some x0)]) (v := some (vI r12)) (M1 := M12) X (m_X4_find l hq12) (cwV 1 X.2.2.1 gX6_takeKnown_X4_find rfl rfl rfl (by decide +kernel) ⟨Nat.le_of_ble_eq_true rfl, Nat.le_of_ble_eq_true rfl⟩) rfl rfl ha13 hT14 (by decide) rfl (Nat.le_of_ble_eq_true rfl) dX6_takeKnown_26 ⟨by decide, by decide⟩ ?_
    obtain ⟨hT15, hf⟩ := ck_e hf
    refine g_putI (ci := 5) 8 X cdX6 i_X6_takeKnown_X6 (by decide) k_X6_takeKnown_f112 rfl dX6_takeKnown_29 rfl hT15 (Or.inl rfl) rfl rfl rfl ?_
    obtain ⟨M16, hM16, hf⟩ := lw_e hf
    rw [← hM16]
    have hT17 : mT M16 x0 = 6 := by rw [hM16]; exact hT15
    refine g_aload_n X dX6_takeKnown_32 rfl rfl ?_
    refine g_get (ci := 5) (v := vI (mI M16 x0 8)) 8 X cdX6 i_X6_takeKnown_X6 (by decide) k_X6_takeKnown_f112 rfl dX6_takeKnown_33 rfl hT17 rfl ?_
    refine g_if_ge (tgt := 49) X dX6_takeKnown_36 (by decide) (fun hc => ?_) (fun hc => ?_)
    · have hf := ife_t hc hf
      refine g_sub (lvsub_of _ _ [0] rfl) ?_
      exact t_X6_takeKnown_49 X hr _ _ _ hf hK
    · have hf := ife_f hc hf
      refine g_aload_n X dX6_takeKnown_39 rfl rfl ?_
      refine g_iconst (v := (3 : Int32)) X dX6_takeKnown_40 (by decide) ?_
      obtain ⟨r18, M18, hq18, hf⟩ := bd_e hf
      refine g_callV (ci := 5) (b := x0) (As := [vI (3 : Int32)]) (st := []) (v := none) (M1 := M18) X (m_X6_noteError l hq18) (cwV 1 X.2.2.1 gX6_takeKnown_X6_noteError rfl rfl rfl (by decide +kernel) ⟨Nat.le_of_ble_eq_true rfl, Nat.le_of_ble_eq_true rfl⟩) rfl rfl rfl hT17 (by decide) rfl (Nat.le_of_ble_eq_true rfl) dX6_takeKnown_41 ⟨by decide, by decide⟩ ?_
      refine g_aload_n X dX6_takeKnown_44 rfl rfl ?_
      refine g_iconst (v := (0 : Int32)) X dX6_takeKnown_45 (by decide) ?_
      obtain ⟨hT19, hf⟩ := ck_e hf
      refine g_putI (ci := 5) 8 X cdX6 i_X6_takeKnown_X6 (by decide) k_X6_takeKnown_f112 rfl dX6_takeKnown_46 rfl hT19 (Or.inl rfl) rfl rfl rfl ?_
      obtain ⟨M20, hM20, hf⟩ := lw_e hf
      rw [← hM20]
      have hT21 : mT M20 x0 = 6 := by rw [hM20]; exact hT19
      refine g_sub (lvsub_of _ _ [0] rfl) ?_
      exact t_X6_takeKnown_49 X hr _ _ _ hf hK
  · have hf := ife_f hc hf
    refine g_iconst (v := (0 : Int32)) X dX6_takeKnown_10 (by decide) ?_
    cases hf
    refine g_eqQ hK ?_
    exact g_zret X hr (gnb (Or.inl rfl)) dX6_takeKnown_11
set_option maxHeartbeats 4000000 in
set_option maxRecDepth 100000 in
theorem m_X6_takeKnown (l : Launch) {D : va_G} {cy : Nat → ClassId} {B : Nat} {H0 : Heap} {Z : Nat → Nat} {M M1 : gMem} {x0 : Nat} {x1 : Option Nat} {r : Int32} (hf : f_X6_takeKnown Z M x0 x1 = some (r, M1)) : Met l yX6_takeKnown wsX6_takeKnown rX6_takeKnown (va_Pc (Value.ref x0 :: List.map gv [vR x1]) (gPre D cy B H0 (gSt Z B H0) M)) (gQ D cy B H0 (some (vI r)) M1) 0 0 (gA B) := by
  refine Met.ofW (cc := cX6_takeKnown) (maxL := 2) (ret := (some .boolean)) (by decide) rfl ?_
  intro p e s m args below meth c s₁ Bd hml hv
  obtain ⟨rfl, hW, hKK, hFs⟩ := hv
  have X : gX p s m _ meth c D cy B (gSt Z B H0) RX6 cX6_takeKnown wsX6_takeKnown 2 := ⟨Bd.exec, Bd.bytes, atoms_spec (ws := wsX6_takeKnown) Bd.pre, findClass_of_methodNamed Bd.named, hml, hKK, by rw [hW.1]; exact hW.2.1, Bd.notSynchronized, hFs⟩
  have hr := Bd.returns
  rcases x1 with _ | x1
  · have hl := lv_entry ([.ref x0, .null]) (n := 2) (Nat.le_of_ble_eq_true rfl)
    show W p l e rX6_takeKnown s m _ below meth c s.heap [] 0 0 _ (entryFrame m ([.ref x0, .null] : List Value).toArray 2)
    rw [lg_entry_eq]
    generalize (lg_sl ([.ref x0, .null]) ++ List.replicate (2 - (lg_sl ([.ref x0, .null])).length) Slot.unset).toArray = ls at hl ⊢
    have hl : lv_has ls 2 (List.map gq [(0, vR (some x0)), (1, vR none)]) := hl
    exact t_X6_takeKnown_0 X hr _ _ _ _ hf rfl s.heap [] ls hW va_S.rf (lv_has_sub hl (lvsub_of _ _ [0, 1] rfl))
  · have hl := lv_entry ([.ref x0, .ref x1]) (n := 2) (Nat.le_of_ble_eq_true rfl)
    show W p l e rX6_takeKnown s m _ below meth c s.heap [] 0 0 _ (entryFrame m ([.ref x0, .ref x1] : List Value).toArray 2)
    rw [lg_entry_eq]
    generalize (lg_sl ([.ref x0, .ref x1]) ++ List.replicate (2 - (lg_sl ([.ref x0, .ref x1])).length) Slot.unset).toArray = ls at hl ⊢
    have hl : lv_has ls 2 (List.map gq [(0, vR (some x0)), (1, vR (some x1))]) := hl
    exact t_X6_takeKnown_0 X hr _ _ _ _ hf rfl s.heap [] ls hW va_S.rf (lv_has_sub hl (lvsub_of _ _ [0, 1] rfl))
/-! ## TideLots$Reader.takeFish(ILTideLots$Ground;)Z -/
theorem dX6_takeFish_0 : decode cX6_takeFish 0 = .ok (.aload_n 0, 1) := by decide +kernel
theorem dX6_takeFish_1 : decode cX6_takeFish 1 = .ok (.invokevirtual 43, 3) := by decide +kernel
theorem dX6_takeFish_4 : decode cX6_takeFish 4 = .ok (.getstatic 130, 3) := by decide +kernel
theorem dX6_takeFish_7 : decode cX6_takeFish 7 = .ok (.if_acmp .ne 13, 3) := by decide +kernel
theorem dX6_takeFish_10 : decode cX6_takeFish 10 = .ok (.iload_n 1, 1) := by decide +kernel
theorem dX6_takeFish_11 : decode cX6_takeFish 11 = .ok (.iconst 5, 1) := by decide +kernel
theorem dX6_takeFish_12 : decode cX6_takeFish 12 = .ok (.if_icmp .le 8, 3) := by decide +kernel
theorem dX6_takeFish_15 : decode cX6_takeFish 15 = .ok (.aload_n 0, 1) := by decide +kernel
theorem dX6_takeFish_16 : decode cX6_takeFish 16 = .ok (.iconst 4, 1) := by decide +kernel
theorem dX6_takeFish_17 : decode cX6_takeFish 17 = .ok (.invokevirtual 133, 3) := by decide +kernel
theorem dX6_takeFish_20 : decode cX6_takeFish 20 = .ok (.aload_n 0, 1) := by decide +kernel
theorem dX6_takeFish_21 : decode cX6_takeFish 21 = .ok (.iconst 0, 1) := by decide +kernel
theorem dX6_takeFish_22 : decode cX6_takeFish 22 = .ok (.bipush 99, 2) := by decide +kernel
theorem dX6_takeFish_24 : decode cX6_takeFish 24 = .ok (.invokevirtual 108, 3) := by decide +kernel
theorem dX6_takeFish_27 : decode cX6_takeFish 27 = .ok (.ifCond .ne 5, 3) := by decide +kernel
theorem dX6_takeFish_30 : decode cX6_takeFish 30 = .ok (.iconst 0, 1) := by decide +kernel
theorem dX6_takeFish_31 : decode cX6_takeFish 31 = .ok (.ireturn, 1) := by decide +kernel
theorem dX6_takeFish_32 : decode cX6_takeFish 32 = .ok (.iload_n 1, 1) := by decide +kernel
theorem dX6_takeFish_33 : decode cX6_takeFish 33 = .ok (.iconst 5, 1) := by decide +kernel
theorem dX6_takeFish_34 : decode cX6_takeFish 34 = .ok (.if_icmp .gt 13, 3) := by decide +kernel
theorem dX6_takeFish_37 : decode cX6_takeFish 37 = .ok (.aload_n 2, 1) := by decide +kernel
theorem dX6_takeFish_38 : decode cX6_takeFish 38 = .ok (.getfield 136, 3) := by decide +kernel
theorem dX6_takeFish_41 : decode cX6_takeFish 41 = .ok (.iload_n 1, 1) := by decide +kernel
theorem dX6_takeFish_42 : decode cX6_takeFish 42 = .ok (.aload_n 0, 1) := by decide +kernel
theorem dX6_takeFish_43 : decode cX6_takeFish 43 = .ok (.getfield 112, 3) := by decide +kernel
theorem dX6_takeFish_46 : decode cX6_takeFish 46 = .ok (.iastore, 1) := by decide +kernel
theorem dX6_takeFish_47 : decode cX6_takeFish 47 = .ok (.iconst 1, 1) := by decide +kernel
theorem dX6_takeFish_48 : decode cX6_takeFish 48 = .ok (.ireturn, 1) := by decide +kernel
set_option maxRecDepth 20000 in
theorem ggX6_takeFish_X6_takeNumber : GoodIn wsX6_takeFish wsX6_takeNumber := goodIn_r _ [22, 1, 9, 23, 11, 3, 4, 5, 6, 7, 8, 10, 12, 13, 14, 15, 16, 17, 18, 24, 25, 26, 27, 32, 33, 34, 35, 36, 37, 38, 39, 40, 41, 42, 43, 44, 45, 46] (by decide +kernel) (by decide +kernel)
set_option maxRecDepth 20000 in
theorem gX6_takeFish_X6_takeNumber : GoodIn wsX6_takeFish (wsV RX6 108 RX6 yX6_takeNumber wsX6_takeNumber) := goodIn_app (goodIn_of _ (by decide +kernel)) ggX6_takeFish_X6_takeNumber
set_option maxRecDepth 20000 in
theorem ggX6_takeFish_X6_sign : GoodIn wsX6_takeFish wsX6_sign := goodIn_r _ [8, 9, 10, 11, 32, 33, 34, 35, 36, 37, 38, 39, 40, 41, 42, 43, 44, 45, 46] (by decide +kernel) (by decide +kernel)
set_option maxRecDepth 20000 in
theorem gX6_takeFish_X6_sign : GoodIn wsX6_takeFish (wsV RX6 43 RX6 yX6_sign wsX6_sign) := goodIn_app (goodIn_of _ (by decide +kernel)) ggX6_takeFish_X6_sign
set_option maxRecDepth 20000 in
theorem ggX6_takeFish_X6_noteError : GoodIn wsX6_takeFish wsX6_noteError := goodIn_r _ [15, 16, 9, 17, 11, 18, 32, 33, 34, 35, 36, 37, 38, 39, 40, 41, 42, 43, 44, 45, 46] (by decide +kernel) (by decide +kernel)
set_option maxRecDepth 20000 in
theorem gX6_takeFish_X6_noteError : GoodIn wsX6_takeFish (wsV RX6 133 RX6 yX6_noteError wsX6_noteError) := goodIn_app (goodIn_of _ (by decide +kernel)) ggX6_takeFish_X6_noteError
theorem k_X6_takeFish_f136 : Cond.fieldLink RX6 136 "TideLots$Ground" "fish" "[I" ∈ wsX6_takeFish := by decide +kernel
theorem i_X6_takeFish_X3 : ∀ w ∈ u_ws RX3 TX3 4, w ∈ wsX6_takeFish := by decide +kernel
theorem k_X6_takeFish_f112 : Cond.fieldLink RX6 112 "TideLots$Reader" "number" "I" ∈ wsX6_takeFish := by decide +kernel
theorem i_X6_takeFish_X6 : ∀ w ∈ u_ws RX6 TX6 9, w ∈ wsX6_takeFish := by decide +kernel
theorem k_X6_takeFish_f130 : Cond.fieldLink RX6 130 "TideLots$Sign" "NUMBER" "LTideLots$Sign;" ∈ wsX6_takeFish := by decide +kernel
abbrev rX6_takeFish : Room := { frames := 2, cells := 0, slots := 0, locals := 43 }
noncomputable def b_X6_takeFish_47 (Z : Nat → Nat) (M : gMem)  : Option (Int32 × gMem) :=
  some ((1 : Int32), M)
noncomputable def b_X6_takeFish_20 (Z : Nat → Nat) (M : gMem) (x0 : Nat) (x1 : Int32) (x2 : Option Nat) : Option (Int32 × gMem) :=
  ck (mT M x0 = 6) <| bd (f_X6_takeNumber Z M x0 ((0 : Int32)) ((99 : Int32))) fun r1 M1 => (if r1 = 0 then some ((0 : Int32), M1) else (if (5 : Int32) < x1 then b_X6_takeFish_47 Z M1  else dr x2 fun a3 => ck (mT M1 a3 = 3) <| ck (mT M1 x0 = 6) <| dr ((mR M1 a3 3)) fun a6 => ck (mT M1 a6 = 20) <| ck (inb x1 (mL M1 a6)) <| lw (wI M1 a6 x1.toNatClampNeg ((mI M1 x0 8))) fun M9 => b_X6_takeFish_47 Z M9 ))
noncomputable def b_X6_takeFish_0 (Z : Nat → Nat) (M : gMem) (x0 : Nat) (x1 : Int32) (x2 : Option Nat) : Option (Int32 × gMem) :=
  ck (mT M x0 = 6) <| bd (f_X6_sign M x0) fun r13 M13 => (if r13 = (some (Z 41)) then (if x1 ≤ (5 : Int32) then b_X6_takeFish_20 Z M13 x0 x1 x2 else ck (mT M13 x0 = 6) <| bd (f_X6_noteError M13 x0 ((4 : Int32))) fun _ M15 => b_X6_takeFish_20 Z M15 x0 x1 x2) else b_X6_takeFish_20 Z M13 x0 x1 x2)
noncomputable def f_X6_takeFish (Z : Nat → Nat) (M : gMem) (x0 : Nat) (x1 : Int32) (x2 : Option Nat) : Option (Int32 × gMem) :=
  b_X6_takeFish_0 Z M x0 x1 x2
set_option maxHeartbeats 4000000 in
set_option maxRecDepth 100000 in
theorem t_X6_takeFish_47 (X : gX p s m args meth c D cy B (gSt Z B H0) RX6 cX6_takeFish wsX6_takeFish 3) (hr : meth.sig.returnType = (some .boolean)) {Q : State → Prop} : ∀ (M : gMem)  (z : Int32 × gMem), b_X6_takeFish_47 Z M  = some z → (fun (r : Int32 × gMem) => Q = gMQ below D cy B H0 args s 0 0 (some (vI r.1)) r.2) z → gGo p l e rX6_takeFish s m args below meth c D cy B H0 3 0 0 Q 47 [] [] M := by
  intro M  z hf hK
  unfold b_X6_takeFish_47 at hf
  refine g_iconst (v := (1 : Int32)) X dX6_takeFish_47 (by decide) ?_
  cases hf
  refine g_eqQ hK ?_
  exact g_zret X hr (gnb (Or.inr rfl)) dX6_takeFish_48
set_option maxHeartbeats 4000000 in
set_option maxRecDepth 100000 in
theorem t_X6_takeFish_20 (X : gX p s m args meth c D cy B (gSt Z B H0) RX6 cX6_takeFish wsX6_takeFish 3) (hr : meth.sig.returnType = (some .boolean)) {Q : State → Prop} : ∀ (M : gMem) (x0 : Nat) (x1 : Int32) (x2 : Option Nat) (z : Int32 × gMem), b_X6_takeFish_20 Z M x0 x1 x2 = some z → (fun (r : Int32 × gMem) => Q = gMQ below D cy B H0 args s 0 0 (some (vI r.1)) r.2) z → gGo p l e rX6_takeFish s m args below meth c D cy B H0 3 0 0 Q 20 [(0, vR (some x0)), (1, vI x1), (2, vR x2)] [] M := by
  intro M x0 x1 x2 z hf hK
  unfold b_X6_takeFish_20 at hf
  refine g_aload_n X dX6_takeFish_20 rfl rfl ?_
  refine g_iconst (v := (0 : Int32)) X dX6_takeFish_21 (by decide) ?_
  refine g_bipush (v := (99 : Int32)) X dX6_takeFish_22 (by decide) ?_
  obtain ⟨hT2, hf⟩ := ck_e hf
  obtain ⟨r1, M1, hq1, hf⟩ := bd_e hf
  refine g_callV (ci := 5) (b := x0) (As := [vI (0 : Int32), vI (99 : Int32)]) (st := []) (v := some (vI r1)) (M1 := M1) X (m_X6_takeNumber l hq1) (cwV 2 X.2.2.1 gX6_takeFish_X6_takeNumber rfl rfl rfl (by decide +kernel) ⟨Nat.le_of_ble_eq_true rfl, Nat.le_of_ble_eq_true rfl⟩) rfl rfl rfl hT2 (by decide) rfl (Nat.le_of_ble_eq_true rfl) dX6_takeFish_24 ⟨by decide, by decide⟩ ?_
  refine g_if_ne (tgt := 32) X dX6_takeFish_27 (by decide) (fun hc => ?_) (fun hc => ?_)
  · have hf := ife_f hc hf
    refine g_iload_n X dX6_takeFish_32 rfl rfl ?_
    refine g_iconst (v := (5 : Int32)) X dX6_takeFish_33 (by decide) ?_
    refine g_icmp_gt (tgt := 47) X dX6_takeFish_34 (by decide) (fun hc => ?_) (fun hc => ?_)
    · have hf := ife_t hc hf
      refine g_sub (lvsub_of _ _ [] rfl) ?_
      exact t_X6_takeFish_47 X hr _  _ hf hK
    · have hf := ife_f hc hf
      refine g_aload_n X dX6_takeFish_37 rfl rfl ?_
      obtain ⟨a3, ha3, hf⟩ := dr_e hf
      obtain ⟨hT4, hf⟩ := ck_e hf
      refine g_get (ci := 2) (v := vR (mR M1 a3 3)) 3 X cdX3 i_X6_takeFish_X3 (by decide) k_X6_takeFish_f136 rfl dX6_takeFish_38 ha3 hT4 rfl ?_
      refine g_iload_n X dX6_takeFish_41 rfl rfl ?_
      refine g_aload_n X dX6_takeFish_42 rfl rfl ?_
      obtain ⟨hT5, hf⟩ := ck_e hf
      refine g_get (ci := 5) (v := vI (mI M1 x0 8)) 8 X cdX6 i_X6_takeFish_X6 (by decide) k_X6_takeFish_f112 rfl dX6_takeFish_43 rfl hT5 rfl ?_
      obtain ⟨a6, ha6, hf⟩ := dr_e hf
      obtain ⟨hT7, hf⟩ := ck_e hf
      obtain ⟨hg8, hf⟩ := ck_e hf
      refine g_iast X dX6_takeFish_46 ha6 hT7 hg8 ?_
      obtain ⟨M9, hM9, hf⟩ := lw_e hf
      rw [← hM9]
      have hT10 : mT M9 a3 = 3 := by rw [hM9]; exact hT4
      have hT11 : mT M9 x0 = 6 := by rw [hM9]; exact hT5
      have hT12 : mT M9 a6 = 20 := by rw [hM9]; exact hT7
      refine g_sub (lvsub_of _ _ [] rfl) ?_
      exact t_X6_takeFish_47 X hr _  _ hf hK
  · have hf := ife_t hc hf
    refine g_iconst (v := (0 : Int32)) X dX6_takeFish_30 (by decide) ?_
    cases hf
    refine g_eqQ hK ?_
    exact g_zret X hr (gnb (Or.inl rfl)) dX6_takeFish_31
set_option maxHeartbeats 4000000 in
set_option maxRecDepth 100000 in
theorem t_X6_takeFish_0 (X : gX p s m args meth c D cy B (gSt Z B H0) RX6 cX6_takeFish wsX6_takeFish 3) (hr : meth.sig.returnType = (some .boolean)) {Q : State → Prop} : ∀ (M : gMem) (x0 : Nat) (x1 : Int32) (x2 : Option Nat) (z : Int32 × gMem), b_X6_takeFish_0 Z M x0 x1 x2 = some z → (fun (r : Int32 × gMem) => Q = gMQ below D cy B H0 args s 0 0 (some (vI r.1)) r.2) z → gGo p l e rX6_takeFish s m args below meth c D cy B H0 3 0 0 Q 0 [(0, vR (some x0)), (1, vI x1), (2, vR x2)] [] M := by
  intro M x0 x1 x2 z hf hK
  unfold b_X6_takeFish_0 at hf
  refine g_aload_n X dX6_takeFish_0 rfl rfl ?_
  obtain ⟨hT14, hf⟩ := ck_e hf
  obtain ⟨r13, M13, hq13, hf⟩ := bd_e hf
  refine g_callV (ci := 5) (b := x0) (As := []) (st := []) (v := some (vR r13)) (M1 := M13) X (m_X6_sign l hq13) (cwV 0 X.2.2.1 gX6_takeFish_X6_sign rfl rfl rfl (by decide +kernel) ⟨Nat.le_of_ble_eq_true rfl, Nat.le_of_ble_eq_true rfl⟩) rfl rfl rfl hT14 (by decide) rfl (Nat.le_of_ble_eq_true rfl) dX6_takeFish_1 ⟨by decide, by decide⟩ ?_
  refine g_gets (w := vR (some (Z 41))) X (gSt_E X 41 (by decide)) k_X6_takeFish_f130 rfl dX6_takeFish_4 ?_
  refine g_acmp_ne (tgt := 20) X dX6_takeFish_7 (by decide) (fun hc => ?_) (fun hc => ?_)
  · have hf := ife_f hc hf
    refine g_sub (lvsub_of _ _ [0, 1, 2] rfl) ?_
    exact t_X6_takeFish_20 X hr _ _ _ _ _ hf hK
  · have hf := ife_t hc hf
    refine g_iload_n X dX6_takeFish_10 rfl rfl ?_
    refine g_iconst (v := (5 : Int32)) X dX6_takeFish_11 (by decide) ?_
    refine g_icmp_le (tgt := 20) X dX6_takeFish_12 (by decide) (fun hc => ?_) (fun hc => ?_)
    · have hf := ife_t hc hf
      refine g_sub (lvsub_of _ _ [0, 1, 2] rfl) ?_
      exact t_X6_takeFish_20 X hr _ _ _ _ _ hf hK
    · have hf := ife_f hc hf
      refine g_aload_n X dX6_takeFish_15 rfl rfl ?_
      refine g_iconst (v := (4 : Int32)) X dX6_takeFish_16 (by decide) ?_
      obtain ⟨hT16, hf⟩ := ck_e hf
      obtain ⟨r15, M15, hq15, hf⟩ := bd_e hf
      refine g_callV (ci := 5) (b := x0) (As := [vI (4 : Int32)]) (st := []) (v := none) (M1 := M15) X (m_X6_noteError l hq15) (cwV 1 X.2.2.1 gX6_takeFish_X6_noteError rfl rfl rfl (by decide +kernel) ⟨Nat.le_of_ble_eq_true rfl, Nat.le_of_ble_eq_true rfl⟩) rfl rfl rfl hT16 (by decide) rfl (Nat.le_of_ble_eq_true rfl) dX6_takeFish_17 ⟨by decide, by decide⟩ ?_
      refine g_sub (lvsub_of _ _ [0, 1, 2] rfl) ?_
      exact t_X6_takeFish_20 X hr _ _ _ _ _ hf hK
set_option maxHeartbeats 4000000 in
set_option maxRecDepth 100000 in
theorem m_X6_takeFish (l : Launch) {D : va_G} {cy : Nat → ClassId} {B : Nat} {H0 : Heap} {Z : Nat → Nat} {M M1 : gMem} {x0 : Nat} {x1 : Int32} {x2 : Option Nat} {r : Int32} (hf : f_X6_takeFish Z M x0 x1 x2 = some (r, M1)) : Met l yX6_takeFish wsX6_takeFish rX6_takeFish (va_Pc (Value.ref x0 :: List.map gv [vI x1, vR x2]) (gPre D cy B H0 (gSt Z B H0) M)) (gQ D cy B H0 (some (vI r)) M1) 0 0 (gA B) := by
  refine Met.ofW (cc := cX6_takeFish) (maxL := 3) (ret := (some .boolean)) (by decide) rfl ?_
  intro p e s m args below meth c s₁ Bd hml hv
  obtain ⟨rfl, hW, hKK, hFs⟩ := hv
  have X : gX p s m _ meth c D cy B (gSt Z B H0) RX6 cX6_takeFish wsX6_takeFish 3 := ⟨Bd.exec, Bd.bytes, atoms_spec (ws := wsX6_takeFish) Bd.pre, findClass_of_methodNamed Bd.named, hml, hKK, by rw [hW.1]; exact hW.2.1, Bd.notSynchronized, hFs⟩
  have hr := Bd.returns
  rcases x2 with _ | x2
  · have hl := lv_entry ([.ref x0, .int x1, .null]) (n := 3) (Nat.le_of_ble_eq_true rfl)
    show W p l e rX6_takeFish s m _ below meth c s.heap [] 0 0 _ (entryFrame m ([.ref x0, .int x1, .null] : List Value).toArray 3)
    rw [lg_entry_eq]
    generalize (lg_sl ([.ref x0, .int x1, .null]) ++ List.replicate (3 - (lg_sl ([.ref x0, .int x1, .null])).length) Slot.unset).toArray = ls at hl ⊢
    have hl : lv_has ls 3 (List.map gq [(0, vR (some x0)), (1, vI x1), (2, vR none)]) := hl
    exact t_X6_takeFish_0 X hr _ _ _ _ _ hf rfl s.heap [] ls hW va_S.rf (lv_has_sub hl (lvsub_of _ _ [0, 1, 2] rfl))
  · have hl := lv_entry ([.ref x0, .int x1, .ref x2]) (n := 3) (Nat.le_of_ble_eq_true rfl)
    show W p l e rX6_takeFish s m _ below meth c s.heap [] 0 0 _ (entryFrame m ([.ref x0, .int x1, .ref x2] : List Value).toArray 3)
    rw [lg_entry_eq]
    generalize (lg_sl ([.ref x0, .int x1, .ref x2]) ++ List.replicate (3 - (lg_sl ([.ref x0, .int x1, .ref x2])).length) Slot.unset).toArray = ls at hl ⊢
    have hl : lv_has ls 3 (List.map gq [(0, vR (some x0)), (1, vI x1), (2, vR (some x2))]) := hl
    exact t_X6_takeFish_0 X hr _ _ _ _ _ hf rfl s.heap [] ls hW va_S.rf (lv_has_sub hl (lvsub_of _ _ [0, 1, 2] rfl))
end
