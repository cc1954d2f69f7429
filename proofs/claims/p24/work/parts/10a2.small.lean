section
variable {p : Program} {l : Launch} {e : Env} {s : State} {m : MethodId} {args : Array Value} {below : List Frame} {meth : Method} {c : Code} {D : va_G} {cy : Nat → ClassId} {B : Nat} {H0 : Heap} {Z : Nat → Nat}
/-! ## TideLots$Go.copyFrom(LTideLots$Go;)V -/
theorem dX2_copyFrom_0 : decode cX2_copyFrom 0 = .ok (.aload_n 0, 1) := by decide +kernel
theorem dX2_copyFrom_1 : decode cX2_copyFrom 1 = .ok (.aload_n 1, 1) := by decide +kernel
theorem dX2_copyFrom_2 : decode cX2_copyFrom 2 = .ok (.getfield 7, 3) := by decide +kernel
theorem dX2_copyFrom_5 : decode cX2_copyFrom 5 = .ok (.putfield 7, 3) := by decide +kernel
theorem dX2_copyFrom_8 : decode cX2_copyFrom 8 = .ok (.aload_n 0, 1) := by decide +kernel
theorem dX2_copyFrom_9 : decode cX2_copyFrom 9 = .ok (.aload_n 1, 1) := by decide +kernel
theorem dX2_copyFrom_10 : decode cX2_copyFrom 10 = .ok (.getfield 13, 3) := by decide +kernel
theorem dX2_copyFrom_13 : decode cX2_copyFrom 13 = .ok (.putfield 13, 3) := by decide +kernel
theorem dX2_copyFrom_16 : decode cX2_copyFrom 16 = .ok (.aload_n 0, 1) := by decide +kernel
theorem dX2_copyFrom_17 : decode cX2_copyFrom 17 = .ok (.aload_n 1, 1) := by decide +kernel
theorem dX2_copyFrom_18 : decode cX2_copyFrom 18 = .ok (.getfield 16, 3) := by decide +kernel
theorem dX2_copyFrom_21 : decode cX2_copyFrom 21 = .ok (.putfield 16, 3) := by decide +kernel
theorem dX2_copyFrom_24 : decode cX2_copyFrom 24 = .ok (.aload_n 0, 1) := by decide +kernel
theorem dX2_copyFrom_25 : decode cX2_copyFrom 25 = .ok (.aload_n 1, 1) := by decide +kernel
theorem dX2_copyFrom_26 : decode cX2_copyFrom 26 = .ok (.getfield 19, 3) := by decide +kernel
theorem dX2_copyFrom_29 : decode cX2_copyFrom 29 = .ok (.putfield 19, 3) := by decide +kernel
theorem dX2_copyFrom_32 : decode cX2_copyFrom 32 = .ok (.return_, 1) := by decide +kernel
theorem k_X2_copyFrom_f7 : Cond.fieldLink RX2 7 "TideLots$Go" "fisher" "I" ∈ wsX2_copyFrom := by decide +kernel
theorem i_X2_copyFrom_X2 : ∀ w ∈ u_ws RX2 TX2 4, w ∈ wsX2_copyFrom := by decide +kernel
theorem k_X2_copyFrom_f13 : Cond.fieldLink RX2 13 "TideLots$Go" "ground" "I" ∈ wsX2_copyFrom := by decide +kernel
theorem k_X2_copyFrom_f16 : Cond.fieldLink RX2 16 "TideLots$Go" "testStart" "I" ∈ wsX2_copyFrom := by decide +kernel
theorem k_X2_copyFrom_f19 : Cond.fieldLink RX2 19 "TideLots$Go" "testEnd" "I" ∈ wsX2_copyFrom := by decide +kernel
abbrev rX2_copyFrom : Room := { frames := 0, cells := 0, slots := 0, locals := 0 }
noncomputable def b_X2_copyFrom_0 (M : gMem) (x0 : Nat) (x1 : Option Nat) : Option (Unit × gMem) :=
  dr x1 fun a1 => ck (mT M a1 = 2) <| ck (mT M x0 = 2) <| lw (wI M x0 0 ((mI M a1 0))) fun M4 => lw (wI M4 x0 1 ((mI M4 a1 1))) fun M7 => lw (wI M7 x0 2 ((mI M7 a1 2))) fun M10 => lw (wI M10 x0 3 ((mI M10 a1 3))) fun M13 => some ((), M13)
noncomputable def f_X2_copyFrom (M : gMem) (x0 : Nat) (x1 : Option Nat) : Option (Unit × gMem) :=
  b_X2_copyFrom_0 M x0 x1
set_option maxHeartbeats 4000000 in
set_option maxRecDepth 100000 in
theorem t_X2_copyFrom_0 (X : gX p s m args meth c D cy B (gSt Z B H0) RX2 cX2_copyFrom wsX2_copyFrom 2) (hr : meth.sig.returnType = none) {Q : State → Prop} : ∀ (M : gMem) (x0 : Nat) (x1 : Option Nat) (z : Unit × gMem), b_X2_copyFrom_0 M x0 x1 = some z → (fun (r : Unit × gMem) => Q = gMQ below D cy B H0 args s 0 0 none r.2) z → gGo p l e rX2_copyFrom s m args below meth c D cy B H0 2 0 0 Q 0 [(0, vR (some x0)), (1, vR x1)] [] M := by
  intro M x0 x1 z hf hK
  unfold b_X2_copyFrom_0 at hf
  refine g_aload_n X dX2_copyFrom_0 rfl rfl ?_
  refine g_aload_n X dX2_copyFrom_1 rfl rfl ?_
  obtain ⟨a1, ha1, hf⟩ := dr_e hf
  obtain ⟨hT2, hf⟩ := ck_e hf
  refine g_get (ci := 1) (v := vI (mI M a1 0)) 0 X cdX2 i_X2_copyFrom_X2 (by decide) k_X2_copyFrom_f7 rfl dX2_copyFrom_2 ha1 hT2 rfl ?_
  obtain ⟨hT3, hf⟩ := ck_e hf
  refine g_putI (ci := 1) 0 X cdX2 i_X2_copyFrom_X2 (by decide) k_X2_copyFrom_f7 rfl dX2_copyFrom_5 rfl hT3 (Or.inl rfl) rfl rfl rfl ?_
  obtain ⟨M4, hM4, hf⟩ := lw_e hf
  rw [← hM4]
  have hT5 : mT M4 a1 = 2 := by rw [hM4]; exact hT2
  have hT6 : mT M4 x0 = 2 := by rw [hM4]; exact hT3
  refine g_aload_n X dX2_copyFrom_8 rfl rfl ?_
  refine g_aload_n X dX2_copyFrom_9 rfl rfl ?_
  refine g_get (ci := 1) (v := vI (mI M4 a1 1)) 1 X cdX2 i_X2_copyFrom_X2 (by decide) k_X2_copyFrom_f13 rfl dX2_copyFrom_10 ha1 hT5 rfl ?_
  refine g_putI (ci := 1) 1 X cdX2 i_X2_copyFrom_X2 (by decide) k_X2_copyFrom_f13 rfl dX2_copyFrom_13 rfl hT6 (Or.inl rfl) rfl rfl rfl ?_
  obtain ⟨M7, hM7, hf⟩ := lw_e hf
  rw [← hM7]
  have hT8 : mT M7 a1 = 2 := by rw [hM7]; exact hT5
  have hT9 : mT M7 x0 = 2 := by rw [hM7]; exact hT6
  refine g_aload_n X dX2_copyFrom_16 rfl rfl ?_
  refine g_aload_n X dX2_copyFrom_17 rfl rfl ?_
  refine g_get (ci := 1) (v := vI (mI M7 a1 2)) 2 X cdX2 i_X2_copyFrom_X2 (by decide) k_X2_copyFrom_f16 rfl dX2_copyFrom_18 ha1 hT8 rfl ?_
  refine g_putI (ci := 1) 2 X cdX2 i_X2_copyFrom_X2 (by decide) k_X2_copyFrom_f16 rfl dX2_copyFrom_21 rfl hT9 (Or.inl rfl) rfl rfl rfl ?_
  obtain ⟨M10, hM10, hf⟩ := lw_e hf
  rw [← hM10]
  have hT11 : mT M10 a1 = 2 := by rw [hM10]; exact hT8
  have hT12 : mT M10 x0 = 2 := by rw [hM10]; exact hT9
  refine g_aload_n X dX2_copyFrom_24 rfl rfl ?_
  refine g_aload_n X dX2_copyFrom_25 rfl rfl ?_
  refine g_get (ci := 1) (v := vI (mI M10 a1 3)) 3 X cdX2 i_X2_copyFrom_X2 (by decide) k_X2_copyFrom_f19 rfl dX2_copyFrom_26 ha1 hT11 rfl ?_
  refine g_putI (ci := 1) 3 X cdX2 i_X2_copyFrom_X2 (by decide) k_X2_copyFrom_f19 rfl dX2_copyFrom_29 rfl hT12 (Or.inl rfl) rfl rfl rfl ?_
  obtain ⟨M13, hM13, hf⟩ := lw_e hf
  rw [← hM13]
  have hT14 : mT M13 a1 = 2 := by rw [hM13]; exact hT11
  have hT15 : mT M13 x0 = 2 := by rw [hM13]; exact hT12
  cases hf
  refine g_eqQ hK ?_
  exact g_vret X hr dX2_copyFrom_32
set_option maxHeartbeats 4000000 in
set_option maxRecDepth 100000 in
theorem m_X2_copyFrom (l : Launch) {D : va_G} {cy : Nat → ClassId} {B : Nat} {H0 : Heap} {Z : Nat → Nat} {M M1 : gMem} {x0 : Nat} {x1 : Option Nat} {r : Unit} (hf : f_X2_copyFrom M x0 x1 = some (r, M1)) : Met l yX2_copyFrom wsX2_copyFrom rX2_copyFrom (va_Pc (Value.ref x0 :: List.map gv [vR x1]) (gPre D cy B H0 (gSt Z B H0) M)) (gQ D cy B H0 none M1) 0 0 (gA B) := by
  refine Met.ofW (cc := cX2_copyFrom) (maxL := 2) (ret := none) (by decide) rfl ?_
  intro p e s m args below meth c s₁ Bd hml hv
  obtain ⟨rfl, hW, hKK, hFs⟩ := hv
  have X : gX p s m _ meth c D cy B (gSt Z B H0) RX2 cX2_copyFrom wsX2_copyFrom 2 := ⟨Bd.exec, Bd.bytes, atoms_spec (ws := wsX2_copyFrom) Bd.pre, findClass_of_methodNamed Bd.named, hml, hKK, by rw [hW.1]; exact hW.2.1, Bd.notSynchronized, hFs⟩
  have hr := Bd.returns
  rcases x1 with _ | x1
  · have hl := lv_entry ([.ref x0, .null]) (n := 2) (Nat.le_of_ble_eq_true rfl)
    show W p l e rX2_copyFrom s m _ below meth c s.heap [] 0 0 _ (entryFrame m ([.ref x0, .null] : List Value).toArray 2)
    rw [lg_entry_eq]
    generalize (lg_sl ([.ref x0, .null]) ++ List.replicate (2 - (lg_sl ([.ref x0, .null])).length) Slot.unset).toArray = ls at hl ⊢
    have hl : lv_has ls 2 (List.map gq [(0, vR (some x0)), (1, vR none)]) := hl
    exact t_X2_copyFrom_0 X hr _ _ _ _ hf rfl s.heap [] ls hW va_S.rf (lv_has_sub hl (lvsub_of _ _ [0, 1] rfl))
  · have hl := lv_entry ([.ref x0, .ref x1]) (n := 2) (Nat.le_of_ble_eq_true rfl)
    show W p l e rX2_copyFrom s m _ below meth c s.heap [] 0 0 _ (entryFrame m ([.ref x0, .ref x1] : List Value).toArray 2)
    rw [lg_entry_eq]
    generalize (lg_sl ([.ref x0, .ref x1]) ++ List.replicate (2 - (lg_sl ([.ref x0, .ref x1])).length) Slot.unset).toArray = ls at hl ⊢
    have hl : lv_has ls 2 (List.map gq [(0, vR (some x0)), (1, vR (some x1))]) := hl
    exact t_X2_copyFrom_0 X hr _ _ _ _ hf rfl s.heap [] ls hW va_S.rf (lv_has_sub hl (lvsub_of _ _ [0, 1] rfl))
/-! ## TideLots$Pact.splits()Z -/
theorem dX5_splits_0 : decode cX5_splits 0 = .ok (.aload_n 0, 1) := by decide +kernel
theorem dX5_splits_1 : decode cX5_splits 1 = .ok (.getfield 9, 3) := by decide +kernel
theorem dX5_splits_4 : decode cX5_splits 4 = .ok (.ifCond .ge 7, 3) := by decide +kernel
theorem dX5_splits_7 : decode cX5_splits 7 = .ok (.iconst 1, 1) := by decide +kernel
theorem dX5_splits_8 : decode cX5_splits 8 = .ok (.goto 4, 3) := by decide +kernel
theorem dX5_splits_11 : decode cX5_splits 11 = .ok (.iconst 0, 1) := by decide +kernel
theorem dX5_splits_12 : decode cX5_splits 12 = .ok (.ireturn, 1) := by decide +kernel
theorem k_X5_splits_f9 : Cond.fieldLink RX5 9 "TideLots$Pact" "ground" "I" ∈ wsX5_splits := by decide +kernel
theorem i_X5_splits_X5 : ∀ w ∈ u_ws RX5 TX5 8, w ∈ wsX5_splits := by decide +kernel
abbrev rX5_splits : Room := { frames := 0, cells := 0, slots := 0, locals := 0 }
noncomputable def b_X5_splits_12 (M : gMem) (s0 : Int32) : Option (Int32 × gMem) :=
  ck (s0 = 0 ∨ s0 = 1) <| some (s0, M)
noncomputable def b_X5_splits_0 (M : gMem) (x0 : Nat) : Option (Int32 × gMem) :=
  ck (mT M x0 = 5) <| (if 0 ≤ (mI M x0 0) then b_X5_splits_12 M ((0 : Int32)) else b_X5_splits_12 M ((1 : Int32)))
noncomputable def f_X5_splits (M : gMem) (x0 : Nat) : Option (Int32 × gMem) :=
  b_X5_splits_0 M x0
set_option maxHeartbeats 4000000 in
set_option maxRecDepth 100000 in
theorem t_X5_splits_12 (X : gX p s m args meth c D cy B (gSt Z B H0) RX5 cX5_splits wsX5_splits 1) (hr : meth.sig.returnType = (some .boolean)) {Q : State → Prop} : ∀ (M : gMem) (s0 : Int32) (z : Int32 × gMem), b_X5_splits_12 M s0 = some z → (fun (r : Int32 × gMem) => Q = gMQ below D cy B H0 args s 0 0 (some (vI r.1)) r.2) z → gGo p l e rX5_splits s m args below meth c D cy B H0 1 0 0 Q 12 [] [vI s0] M := by
  intro M s0 z hf hK
  unfold b_X5_splits_12 at hf
  obtain ⟨hg1, hf⟩ := ck_e hf
  cases hf
  refine g_eqQ hK ?_
  exact g_zret X hr (gnb hg1) dX5_splits_12
set_option maxHeartbeats 4000000 in
set_option maxRecDepth 100000 in
theorem t_X5_splits_0 (X : gX p s m args meth c D cy B (gSt Z B H0) RX5 cX5_splits wsX5_splits 1) (hr : meth.sig.returnType = (some .boolean)) {Q : State → Prop} : ∀ (M : gMem) (x0 : Nat) (z : Int32 × gMem), b_X5_splits_0 M x0 = some z → (fun (r : Int32 × gMem) => Q = gMQ below D cy B H0 args s 0 0 (some (vI r.1)) r.2) z → gGo p l e rX5_splits s m args below meth c D cy B H0 1 0 0 Q 0 [(0, vR (some x0))] [] M := by
  intro M x0 z hf hK
  unfold b_X5_splits_0 at hf
  refine g_aload_n X dX5_splits_0 rfl rfl ?_
  obtain ⟨hT2, hf⟩ := ck_e hf
  refine g_get (ci := 4) (v := vI (mI M x0 0)) 0 X cdX5 i_X5_splits_X5 (by decide) k_X5_splits_f9 rfl dX5_splits_1 rfl hT2 rfl ?_
  refine g_if_ge (tgt := 11) X dX5_splits_4 (by decide) (fun hc => ?_) (fun hc => ?_)
  · have hf := ife_t hc hf
    refine g_iconst (v := (0 : Int32)) X dX5_splits_11 (by decide) ?_
    refine g_sub (lvsub_of _ _ [] rfl) ?_
    exact t_X5_splits_12 X hr _ _ _ hf hK
  · have hf := ife_f hc hf
    refine g_iconst (v := (1 : Int32)) X dX5_splits_7 (by decide) ?_
    refine g_goto (tgt := 12) X dX5_splits_8 (by decide) ?_
    refine g_sub (lvsub_of _ _ [] rfl) ?_
    exact t_X5_splits_12 X hr _ _ _ hf hK
set_option maxHeartbeats 4000000 in
set_option maxRecDepth 100000 in
theorem m_X5_splits (l : Launch) {D : va_G} {cy : Nat → ClassId} {B : Nat} {H0 : Heap} {Z : Nat → Nat} {M M1 : gMem} {x0 : Nat} {r : Int32} (hf : f_X5_splits M x0 = some (r, M1)) : Met l yX5_splits wsX5_splits rX5_splits (va_Pc (Value.ref x0 :: List.map gv []) (gPre D cy B H0 (gSt Z B H0) M)) (gQ D cy B H0 (some (vI r)) M1) 0 0 (gA B) := by
  refine Met.ofW (cc := cX5_splits) (maxL := 1) (ret := (some .boolean)) (by decide) rfl ?_
  intro p e s m args below meth c s₁ Bd hml hv
  obtain ⟨rfl, hW, hKK, hFs⟩ := hv
  have X : gX p s m _ meth c D cy B (gSt Z B H0) RX5 cX5_splits wsX5_splits 1 := ⟨Bd.exec, Bd.bytes, atoms_spec (ws := wsX5_splits) Bd.pre, findClass_of_methodNamed Bd.named, hml, hKK, by rw [hW.1]; exact hW.2.1, Bd.notSynchronized, hFs⟩
  have hr := Bd.returns
  have hl := lv_entry ([.ref x0]) (n := 1) (Nat.le_of_ble_eq_true rfl)
  show W p l e rX5_splits s m _ below meth c s.heap [] 0 0 _ (entryFrame m ([.ref x0] : List Value).toArray 1)
  rw [lg_entry_eq]
  generalize (lg_sl ([.ref x0]) ++ List.replicate (1 - (lg_sl ([.ref x0])).length) Slot.unset).toArray = ls at hl ⊢
  have hl : lv_has ls 1 (List.map gq [(0, vR (some x0))]) := hl
  exact t_X5_splits_0 X hr _ _ _ hf rfl s.heap [] ls hW va_S.rf (lv_has_sub hl (lvsub_of _ _ [0] rfl))
/-! ## TideLots$Pact.has(I)Z -/
theorem dX5_has_0 : decode cX5_has 0 = .ok (.iconst 0, 1) := by decide +kernel
theorem dX5_has_1 : decode cX5_has 1 = .ok (.istore_n 2, 1) := by decide +kernel
theorem dX5_has_2 : decode cX5_has 2 = .ok (.iload_n 2, 1) := by decide +kernel
theorem dX5_has_3 : decode cX5_has 3 = .ok (.aload_n 0, 1) := by decide +kernel
theorem dX5_has_4 : decode cX5_has 4 = .ok (.getfield 25, 3) := by decide +kernel
theorem dX5_has_7 : decode cX5_has 7 = .ok (.if_icmp .ge 21, 3) := by decide +kernel
theorem dX5_has_10 : decode cX5_has 10 = .ok (.aload_n 0, 1) := by decide +kernel
theorem dX5_has_11 : decode cX5_has 11 = .ok (.getfield 15, 3) := by decide +kernel
theorem dX5_has_14 : decode cX5_has 14 = .ok (.iload_n 2, 1) := by decide +kernel
theorem dX5_has_15 : decode cX5_has 15 = .ok (.iaload, 1) := by decide +kernel
theorem dX5_has_16 : decode cX5_has 16 = .ok (.iload_n 1, 1) := by decide +kernel
theorem dX5_has_17 : decode cX5_has 17 = .ok (.if_icmp .ne 5, 3) := by decide +kernel
theorem dX5_has_20 : decode cX5_has 20 = .ok (.iconst 1, 1) := by decide +kernel
theorem dX5_has_21 : decode cX5_has 21 = .ok (.ireturn, 1) := by decide +kernel
theorem dX5_has_22 : decode cX5_has 22 = .ok (.iinc 2 1, 3) := by decide +kernel
theorem dX5_has_25 : decode cX5_has 25 = .ok (.goto (-23), 3) := by decide +kernel
theorem dX5_has_28 : decode cX5_has 28 = .ok (.iconst 0, 1) := by decide +kernel
theorem dX5_has_29 : decode cX5_has 29 = .ok (.ireturn, 1) := by decide +kernel
theorem k_X5_has_f25 : Cond.fieldLink RX5 25 "TideLots$Pact" "size" "I" ∈ wsX5_has := by decide +kernel
theorem i_X5_has_X5 : ∀ w ∈ u_ws RX5 TX5 8, w ∈ wsX5_has := by decide +kernel
theorem k_X5_has_f15 : Cond.fieldLink RX5 15 "TideLots$Pact" "fishers" "[I" ∈ wsX5_has := by decide +kernel
abbrev rX5_has : Room := { frames := 0, cells := 0, slots := 0, locals := 0 }
noncomputable def bb_X5_has_2 (M : gMem) (x0 : Nat) (x1 : Int32) (x2 : Int32) : Option ((gMem × Int32) ⊕ (Int32 × gMem)) :=
  ck (mT M x0 = 5) <| (if (mI M x0 3) ≤ x2 then oI (some ((0 : Int32), M)) else dr ((mR M x0 4)) fun a3 => ck (mT M a3 = 20) <| ck (inb x2 (mL M a3)) <| (if (mI M a3 x2.toNatClampNeg) = x1 then oI (some ((1 : Int32), M)) else some (.inl (M, (x2 + (1 : Int32))))))
noncomputable def lp_X5_has_2 (M : gMem) (x0 : Nat) (x1 : Int32) (x2 : Int32) : Option (Int32 × gMem) :=
  lp (fun (q : gMem × Int32) => bb_X5_has_2 q.1 x0 x1 q.2) (M, x2)
noncomputable def b_X5_has_0 (M : gMem) (x0 : Nat) (x1 : Int32) : Option (Int32 × gMem) :=
  lp_X5_has_2 M x0 x1 ((0 : Int32))
noncomputable def f_X5_has (M : gMem) (x0 : Nat) (x1 : Int32) : Option (Int32 × gMem) :=
  b_X5_has_0 M x0 x1
set_option maxHeartbeats 4000000 in
set_option maxRecDepth 100000 in
theorem tb_X5_has_2 (X : gX p s m args meth c D cy B (gSt Z B H0) RX5 cX5_has wsX5_has 3) (hr : meth.sig.returnType = (some .boolean)) {Q : State → Prop} : ∀ (M : gMem) (x0 : Nat) (x1 : Int32) (x2 : Int32) (z : (gMem × Int32) ⊕ (Int32 × gMem)), bb_X5_has_2 M x0 x1 x2 = some z → (Sum.elim (fun (q : gMem × Int32) => gGo p l e rX5_has s m args below meth c D cy B H0 3 0 0 Q 2 [(0, vR (some x0)), (1, vI x1), (2, vI q.2)] [] q.1) (fun (r : Int32 × gMem) => Q = gMQ below D cy B H0 args s 0 0 (some (vI r.1)) r.2)) z → gGo p l e rX5_has s m args below meth c D cy B H0 3 0 0 Q 2 [(0, vR (some x0)), (1, vI x1), (2, vI x2)] [] M := by
  intro M x0 x1 x2 z hf hK
  unfold bb_X5_has_2 at hf
  refine g_iload_n X dX5_has_2 rfl rfl ?_
  refine g_aload_n X dX5_has_3 rfl rfl ?_
  obtain ⟨hT1, hf⟩ := ck_e hf
  refine g_get (ci := 4) (v := vI (mI M x0 3)) 3 X cdX5 i_X5_has_X5 (by decide) k_X5_has_f25 rfl dX5_has_4 rfl hT1 rfl ?_
  refine g_icmp_ge (tgt := 28) X dX5_has_7 (by decide) (fun hc => ?_) (fun hc => ?_)
  · have hf := ife_t hc hf
    refine g_iconst (v := (0 : Int32)) X dX5_has_28 (by decide) ?_
    obtain ⟨w2, hw2, hz2⟩ := oI_e hf
    subst hz2
    have hf := hw2
    cases hf
    refine g_eqQ hK ?_
    exact g_zret X hr (gnb (Or.inl rfl)) dX5_has_29
  · have hf := ife_f hc hf
    refine g_aload_n X dX5_has_10 rfl rfl ?_
    refine g_get (ci := 4) (v := vR (mR M x0 4)) 4 X cdX5 i_X5_has_X5 (by decide) k_X5_has_f15 rfl dX5_has_11 rfl hT1 rfl ?_
    refine g_iload_n X dX5_has_14 rfl rfl ?_
    obtain ⟨a3, ha3, hf⟩ := dr_e hf
    obtain ⟨hT4, hf⟩ := ck_e hf
    obtain ⟨hg5, hf⟩ := ck_e hf
    refine g_iald X dX5_has_15 ha3 hT4 hg5 ?_
    refine g_iload_n X dX5_has_16 rfl rfl ?_
    refine g_icmp_ne (tgt := 22) X dX5_has_17 (by decide) (fun hc => ?_) (fun hc => ?_)
    · have hf := ife_f hc hf
      refine g_iinc (v := (1 : Int32)) (lv' := [(2, vI (x2 + (1 : Int32))), (0, vR (some x0)), (1, vI x1)]) X dX5_has_22 rfl (by decide) (by decide) rfl ?_
      refine g_goto (tgt := 2) X dX5_has_25 (by decide) ?_
      cases hf
      refine g_sub (lvsub_of _ _ [1, 2, 0] rfl) ?_
      exact hK
    · have hf := ife_t hc hf
      refine g_iconst (v := (1 : Int32)) X dX5_has_20 (by decide) ?_
      obtain ⟨w6, hw6, hz6⟩ := oI_e hf
      subst hz6
      have hf := hw6
      cases hf
      refine g_eqQ hK ?_
      exact g_zret X hr (gnb (Or.inr rfl)) dX5_has_21
set_option maxHeartbeats 4000000 in
set_option maxRecDepth 100000 in
theorem tl_X5_has_2 (X : gX p s m args meth c D cy B (gSt Z B H0) RX5 cX5_has wsX5_has 3) (hr : meth.sig.returnType = (some .boolean)) {Q : State → Prop} : ∀ (M : gMem) (x0 : Nat) (x1 : Int32) (x2 : Int32) (z : Int32 × gMem), lp_X5_has_2 M x0 x1 x2 = some z → (fun (r : Int32 × gMem) => Q = gMQ below D cy B H0 args s 0 0 (some (vI r.1)) r.2) z → gGo p l e rX5_has s m args below meth c D cy B H0 3 0 0 Q 2 [(0, vR (some x0)), (1, vI x1), (2, vI x2)] [] M := by
  intro M x0 x1 x2 z hf hK
  refine lp_ind (P := (fun (q : gMem × Int32) (z : Int32 × gMem) => (fun (r : Int32 × gMem) => Q = gMQ below D cy B H0 args s 0 0 (some (vI r.1)) r.2) z → gGo p l e rX5_has s m args below meth c D cy B H0 3 0 0 Q 2 [(0, vR (some x0)), (1, vI x1), (2, vI q.2)] [] q.1)) (fun q z hq => ?_) _ _ hf hK
  intro hK
  obtain ⟨w, hw, hm⟩ := hq
  refine tb_X5_has_2 X hr _ _ _ _ w hw ?_
  cases w with
  | inl a => exact hm hK
  | inr b => cases hm; exact hK
set_option maxHeartbeats 4000000 in
set_option maxRecDepth 100000 in
theorem t_X5_has_0 (X : gX p s m args meth c D cy B (gSt Z B H0) RX5 cX5_has wsX5_has 3) (hr : meth.sig.returnType = (some .boolean)) {Q : State → Prop} : ∀ (M : gMem) (x0 : Nat) (x1 : Int32) (z : Int32 × gMem), b_X5_has_0 M x0 x1 = some z → (fun (r : Int32 × gMem) => Q = gMQ below D cy B H0 args s 0 0 (some (vI r.1)) r.2) z → gGo p l e rX5_has s m args below meth c D cy B H0 3 0 0 Q 0 [(0, vR (some x0)), (1, vI x1)] [] M := by
  intro M x0 x1 z hf hK
  unfold b_X5_has_0 at hf
  refine g_iconst (v := (0 : Int32)) X dX5_has_0 (by decide) ?_
  refine g_istore_n (lv' := [(2, vI (0 : Int32)), (0, vR (some x0)), (1, vI x1)]) X dX5_has_1 rfl (by decide) rfl ?_
  refine g_sub (lvsub_of _ _ [1, 2, 0] rfl) ?_
  exact tl_X5_has_2 X hr _ _ _ _ _ hf hK
set_option maxHeartbeats 4000000 in
set_option maxRecDepth 100000 in
theorem m_X5_has (l : Launch) {D : va_G} {cy : Nat → ClassId} {B : Nat} {H0 : Heap} {Z : Nat → Nat} {M M1 : gMem} {x0 : Nat} {x1 : Int32} {r : Int32} (hf : f_X5_has M x0 x1 = some (r, M1)) : Met l yX5_has wsX5_has rX5_has (va_Pc (Value.ref x0 :: List.map gv [vI x1]) (gPre D cy B H0 (gSt Z B H0) M)) (gQ D cy B H0 (some (vI r)) M1) 0 0 (gA B) := by
  refine Met.ofW (cc := cX5_has) (maxL := 3) (ret := (some .boolean)) (by decide) rfl ?_
  intro p e s m args below meth c s₁ Bd hml hv
  obtain ⟨rfl, hW, hKK, hFs⟩ := hv
  have X : gX p s m _ meth c D cy B (gSt Z B H0) RX5 cX5_has wsX5_has 3 := ⟨Bd.exec, Bd.bytes, atoms_spec (ws := wsX5_has) Bd.pre, findClass_of_methodNamed Bd.named, hml, hKK, by rw [hW.1]; exact hW.2.1, Bd.notSynchronized, hFs⟩
  have hr := Bd.returns
  have hl := lv_entry ([.ref x0, .int x1]) (n := 3) (Nat.le_of_ble_eq_true rfl)
  show W p l e rX5_has s m _ below meth c s.heap [] 0 0 _ (entryFrame m ([.ref x0, .int x1] : List Value).toArray 3)
  rw [lg_entry_eq]
  generalize (lg_sl ([.ref x0, .int x1]) ++ List.replicate (3 - (lg_sl ([.ref x0, .int x1])).length) Slot.unset).toArray = ls at hl ⊢
  have hl : lv_has ls 3 (List.map gq [(0, vR (some x0)), (1, vI x1)]) := hl
  exact t_X5_has_0 X hr _ _ _ _ hf rfl s.heap [] ls hW va_S.rf (lv_has_sub hl (lvsub_of _ _ [0, 1] rfl))
/-! ## TideLots$Pact.add(I)V -/
theorem dX5_add_0 : decode cX5_add 0 = .ok (.aload_n 0, 1) := by decide +kernel
theorem dX5_add_1 : decode cX5_add 1 = .ok (.getfield 25, 3) := by decide +kernel
theorem dX5_add_4 : decode cX5_add 4 = .ok (.bipush 8, 2) := by decide +kernel
theorem dX5_add_6 : decode cX5_add 6 = .ok (.if_icmp .ge 23, 3) := by decide +kernel
theorem dX5_add_9 : decode cX5_add 9 = .ok (.aload_n 0, 1) := by decide +kernel
theorem dX5_add_10 : decode cX5_add 10 = .ok (.getfield 15, 3) := by decide +kernel
theorem dX5_add_13 : decode cX5_add 13 = .ok (.aload_n 0, 1) := by decide +kernel
theorem dX5_add_14 : decode cX5_add 14 = .ok (.getfield 25, 3) := by decide +kernel
theorem dX5_add_17 : decode cX5_add 17 = .ok (.iload_n 1, 1) := by decide +kernel
theorem dX5_add_18 : decode cX5_add 18 = .ok (.iastore, 1) := by decide +kernel
theorem dX5_add_19 : decode cX5_add 19 = .ok (.aload_n 0, 1) := by decide +kernel
theorem dX5_add_20 : decode cX5_add 20 = .ok (.dup, 1) := by decide +kernel
theorem dX5_add_21 : decode cX5_add 21 = .ok (.getfield 25, 3) := by decide +kernel
theorem dX5_add_24 : decode cX5_add 24 = .ok (.iconst 1, 1) := by decide +kernel
theorem dX5_add_25 : decode cX5_add 25 = .ok (.iadd, 1) := by decide +kernel
theorem dX5_add_26 : decode cX5_add 26 = .ok (.putfield 25, 3) := by decide +kernel
theorem dX5_add_29 : decode cX5_add 29 = .ok (.return_, 1) := by decide +kernel
theorem k_X5_add_f25 : Cond.fieldLink RX5 25 "TideLots$Pact" "size" "I" ∈ wsX5_add := by decide +kernel
theorem i_X5_add_X5 : ∀ w ∈ u_ws RX5 TX5 8, w ∈ wsX5_add := by decide +kernel
theorem k_X5_add_f15 : Cond.fieldLink RX5 15 "TideLots$Pact" "fishers" "[I" ∈ wsX5_add := by decide +kernel
abbrev rX5_add : Room := { frames := 0, cells := 0, slots := 0, locals := 0 }
noncomputable def b_X5_add_29 (M : gMem)  : Option (Unit × gMem) :=
  some ((), M)
noncomputable def b_X5_add_0 (M : gMem) (x0 : Nat) (x1 : Int32) : Option (Unit × gMem) :=
  ck (mT M x0 = 5) <| (if (8 : Int32) ≤ (mI M x0 3) then b_X5_add_29 M  else dr ((mR M x0 4)) fun a2 => ck (mT M a2 = 20) <| ck (inb (mI M x0 3) (mL M a2)) <| lw (wI M a2 ((mI M x0 3)).toNatClampNeg x1) fun M5 => lw (wI M5 x0 3 (((mI M5 x0 3) + (1 : Int32)))) fun M8 => b_X5_add_29 M8 )
noncomputable def f_X5_add (M : gMem) (x0 : Nat) (x1 : Int32) : Option (Unit × gMem) :=
  b_X5_add_0 M x0 x1
set_option maxHeartbeats 4000000 in
set_option maxRecDepth 100000 in
theorem t_X5_add_29 (X : gX p s m args meth c D cy B (gSt Z B H0) RX5 cX5_add wsX5_add 2) (hr : meth.sig.returnType = none) {Q : State → Prop} : ∀ (M : gMem)  (z : Unit × gMem), b_X5_add_29 M  = some z → (fun (r : Unit × gMem) => Q = gMQ below D cy B H0 args s 0 0 none r.2) z → gGo p l e rX5_add s m args below meth c D cy B H0 2 0 0 Q 29 [] [] M := by
  intro M  z hf hK
  unfold b_X5_add_29 at hf
  cases hf
  refine g_eqQ hK ?_
  exact g_vret X hr dX5_add_29
set_option maxHeartbeats 4000000 in
set_option maxRecDepth 100000 in
theorem t_X5_add_0 (X : gX p s m args meth c D cy B (gSt Z B H0) RX5 cX5_add wsX5_add 2) (hr : meth.sig.returnType = none) {Q : State → Prop} : ∀ (M : gMem) (x0 : Nat) (x1 : Int32) (z : Unit × gMem), b_X5_add_0 M x0 x1 = some z → (fun (r : Unit × gMem) => Q = gMQ below D cy B H0 args s 0 0 none r.2) z → gGo p l e rX5_add s m args below meth c D cy B H0 2 0 0 Q 0 [(0, vR (some x0)), (1, vI x1)] [] M := by
  intro M x0 x1 z hf hK
  unfold b_X5_add_0 at hf
  refine g_aload_n X dX5_add_0 rfl rfl ?_
  obtain ⟨hT1, hf⟩ := ck_e hf
  refine g_get (ci := 4) (v := vI (mI M x0 3)) 3 X cdX5 i_X5_add_X5 (by decide) k_X5_add_f25 rfl dX5_add_1 rfl hT1 rfl ?_
  refine g_bipush (v := (8 : Int32)) X dX5_add_4 (by decide) ?_
  refine g_icmp_ge (tgt := 29) X dX5_add_6 (by decide) (fun hc => ?_) (fun hc => ?_)
  · have hf := ife_t hc hf
    refine g_sub (lvsub_of _ _ [] rfl) ?_
    exact t_X5_add_29 X hr _  _ hf hK
  · have hf := ife_f hc hf
    refine g_aload_n X dX5_add_9 rfl rfl ?_
    refine g_get (ci := 4) (v := vR (mR M x0 4)) 4 X cdX5 i_X5_add_X5 (by decide) k_X5_add_f15 rfl dX5_add_10 rfl hT1 rfl ?_
    refine g_aload_n X dX5_add_13 rfl rfl ?_
    refine g_get (ci := 4) (v := vI (mI M x0 3)) 3 X cdX5 i_X5_add_X5 (by decide) k_X5_add_f25 rfl dX5_add_14 rfl hT1 rfl ?_
    refine g_iload_n X dX5_add_17 rfl rfl ?_
    obtain ⟨a2, ha2, hf⟩ := dr_e hf
    obtain ⟨hT3, hf⟩ := ck_e hf
    obtain ⟨hg4, hf⟩ := ck_e hf
    refine g_iast X dX5_add_18 ha2 hT3 hg4 ?_
    obtain ⟨M5, hM5, hf⟩ := lw_e hf
    rw [← hM5]
    have hT6 : mT M5 x0 = 5 := by rw [hM5]; exact hT1
    have hT7 : mT M5 a2 = 20 := by rw [hM5]; exact hT3
    refine g_aload_n X dX5_add_19 rfl rfl ?_
    refine g_dup X dX5_add_20 rfl ?_
    refine g_get (ci := 4) (v := vI (mI M5 x0 3)) 3 X cdX5 i_X5_add_X5 (by decide) k_X5_add_f25 rfl dX5_add_21 rfl hT6 rfl ?_
    refine g_iconst (v := (1 : Int32)) X dX5_add_24 (by decide) ?_
    refine g_iadd X dX5_add_25 ?_
    refine g_putI (ci := 4) 3 X cdX5 i_X5_add_X5 (by decide) k_X5_add_f25 rfl dX5_add_26 rfl hT6 (Or.inl rfl) rfl rfl rfl ?_
    obtain ⟨M8, hM8, hf⟩ := lw_e hf
    rw [← hM8]
    have hT9 : mT M8 x0 = 5 := by rw [hM8]; exact hT6
    have hT10 : mT M8 a2 = 20 := by rw [hM8]; exact hT7
    refine g_sub (lvsub_of _ _ [] rfl) ?_
    exact t_X5_add_29 X hr _  _ hf hK
set_option maxHeartbeats 4000000 in
set_option maxRecDepth 100000 in
theorem m_X5_add (l : Launch) {D : va_G} {cy : Nat → ClassId} {B : Nat} {H0 : Heap} {Z : Nat → Nat} {M M1 : gMem} {x0 : Nat} {x1 : Int32} {r : Unit} (hf : f_X5_add M x0 x1 = some (r, M1)) : Met l yX5_add wsX5_add rX5_add (va_Pc (Value.ref x0 :: List.map gv [vI x1]) (gPre D cy B H0 (gSt Z B H0) M)) (gQ D cy B H0 none M1) 0 0 (gA B) := by
  refine Met.ofW (cc := cX5_add) (maxL := 2) (ret := none) (by decide) rfl ?_
  intro p e s m args below meth c s₁ Bd hml hv
  obtain ⟨rfl, hW, hKK, hFs⟩ := hv
  have X : gX p s m _ meth c D cy B (gSt Z B H0) RX5 cX5_add wsX5_add 2 := ⟨Bd.exec, Bd.bytes, atoms_spec (ws := wsX5_add) Bd.pre, findClass_of_methodNamed Bd.named, hml, hKK, by rw [hW.1]; exact hW.2.1, Bd.notSynchronized, hFs⟩
  have hr := Bd.returns
  have hl := lv_entry ([.ref x0, .int x1]) (n := 2) (Nat.le_of_ble_eq_true rfl)
  show W p l e rX5_add s m _ below meth c s.heap [] 0 0 _ (entryFrame m ([.ref x0, .int x1] : List Value).toArray 2)
  rw [lg_entry_eq]
  generalize (lg_sl ([.ref x0, .int x1]) ++ List.replicate (2 - (lg_sl ([.ref x0, .int x1])).length) Slot.unset).toArray = ls at hl ⊢
  have hl : lv_has ls 2 (List.map gq [(0, vR (some x0)), (1, vI x1)]) := hl
  exact t_X5_add_0 X hr _ _ _ _ hf rfl s.heap [] ls hW va_S.rf (lv_has_sub hl (lvsub_of _ _ [0, 1] rfl))
/-! ## TideLots$Pact.copyFrom(LTideLots$Pact;)V -/
theorem dX5_copyFrom_0 : decode cX5_copyFrom 0 = .ok (.aload_n 0, 1) := by decide +kernel
theorem dX5_copyFrom_1 : decode cX5_copyFrom 1 = .ok (.aload_n 1, 1) := by decide +kernel
theorem dX5_copyFrom_2 : decode cX5_copyFrom 2 = .ok (.getfield 9, 3) := by decide +kernel
theorem dX5_copyFrom_5 : decode cX5_copyFrom 5 = .ok (.putfield 9, 3) := by decide +kernel
theorem dX5_copyFrom_8 : decode cX5_copyFrom 8 = .ok (.aload_n 0, 1) := by decide +kernel
theorem dX5_copyFrom_9 : decode cX5_copyFrom 9 = .ok (.aload_n 1, 1) := by decide +kernel
theorem dX5_copyFrom_10 : decode cX5_copyFrom 10 = .ok (.getfield 19, 3) := by decide +kernel
theorem dX5_copyFrom_13 : decode cX5_copyFrom 13 = .ok (.putfield 19, 3) := by decide +kernel
theorem dX5_copyFrom_16 : decode cX5_copyFrom 16 = .ok (.aload_n 0, 1) := by decide +kernel
theorem dX5_copyFrom_17 : decode cX5_copyFrom 17 = .ok (.aload_n 1, 1) := by decide +kernel
theorem dX5_copyFrom_18 : decode cX5_copyFrom 18 = .ok (.getfield 22, 3) := by decide +kernel
theorem dX5_copyFrom_21 : decode cX5_copyFrom 21 = .ok (.putfield 22, 3) := by decide +kernel
theorem dX5_copyFrom_24 : decode cX5_copyFrom 24 = .ok (.aload_n 0, 1) := by decide +kernel
theorem dX5_copyFrom_25 : decode cX5_copyFrom 25 = .ok (.aload_n 1, 1) := by decide +kernel
theorem dX5_copyFrom_26 : decode cX5_copyFrom 26 = .ok (.getfield 25, 3) := by decide +kernel
theorem dX5_copyFrom_29 : decode cX5_copyFrom 29 = .ok (.putfield 25, 3) := by decide +kernel
theorem dX5_copyFrom_32 : decode cX5_copyFrom 32 = .ok (.aload_n 0, 1) := by decide +kernel
theorem dX5_copyFrom_33 : decode cX5_copyFrom 33 = .ok (.aload_n 1, 1) := by decide +kernel
theorem dX5_copyFrom_34 : decode cX5_copyFrom 34 = .ok (.getfield 28, 3) := by decide +kernel
theorem dX5_copyFrom_37 : decode cX5_copyFrom 37 = .ok (.putfield 28, 3) := by decide +kernel
theorem dX5_copyFrom_40 : decode cX5_copyFrom 40 = .ok (.aload_n 0, 1) := by decide +kernel
theorem dX5_copyFrom_41 : decode cX5_copyFrom 41 = .ok (.aload_n 1, 1) := by decide +kernel
theorem dX5_copyFrom_42 : decode cX5_copyFrom 42 = .ok (.getfield 31, 3) := by decide +kernel
theorem dX5_copyFrom_45 : decode cX5_copyFrom 45 = .ok (.putfield 31, 3) := by decide +kernel
theorem dX5_copyFrom_48 : decode cX5_copyFrom 48 = .ok (.aload_n 0, 1) := by decide +kernel
theorem dX5_copyFrom_49 : decode cX5_copyFrom 49 = .ok (.aload_n 1, 1) := by decide +kernel
theorem dX5_copyFrom_50 : decode cX5_copyFrom 50 = .ok (.getfield 34, 3) := by decide +kernel
theorem dX5_copyFrom_53 : decode cX5_copyFrom 53 = .ok (.putfield 34, 3) := by decide +kernel
theorem dX5_copyFrom_56 : decode cX5_copyFrom 56 = .ok (.iconst 0, 1) := by decide +kernel
theorem dX5_copyFrom_57 : decode cX5_copyFrom 57 = .ok (.istore_n 2, 1) := by decide +kernel
theorem dX5_copyFrom_58 : decode cX5_copyFrom 58 = .ok (.iload_n 2, 1) := by decide +kernel
theorem dX5_copyFrom_59 : decode cX5_copyFrom 59 = .ok (.bipush 8, 2) := by decide +kernel
theorem dX5_copyFrom_61 : decode cX5_copyFrom 61 = .ok (.if_icmp .ge 21, 3) := by decide +kernel
theorem dX5_copyFrom_64 : decode cX5_copyFrom 64 = .ok (.aload_n 0, 1) := by decide +kernel
theorem dX5_copyFrom_65 : decode cX5_copyFrom 65 = .ok (.getfield 15, 3) := by decide +kernel
theorem dX5_copyFrom_68 : decode cX5_copyFrom 68 = .ok (.iload_n 2, 1) := by decide +kernel
theorem dX5_copyFrom_69 : decode cX5_copyFrom 69 = .ok (.aload_n 1, 1) := by decide +kernel
theorem dX5_copyFrom_70 : decode cX5_copyFrom 70 = .ok (.getfield 15, 3) := by decide +kernel
theorem dX5_copyFrom_73 : decode cX5_copyFrom 73 = .ok (.iload_n 2, 1) := by decide +kernel
theorem dX5_copyFrom_74 : decode cX5_copyFrom 74 = .ok (.iaload, 1) := by decide +kernel
theorem dX5_copyFrom_75 : decode cX5_copyFrom 75 = .ok (.iastore, 1) := by decide +kernel
theorem dX5_copyFrom_76 : decode cX5_copyFrom 76 = .ok (.iinc 2 1, 3) := by decide +kernel
theorem dX5_copyFrom_79 : decode cX5_copyFrom 79 = .ok (.goto (-21), 3) := by decide +kernel
theorem dX5_copyFrom_82 : decode cX5_copyFrom 82 = .ok (.return_, 1) := by decide +kernel
theorem k_X5_copyFrom_f15 : Cond.fieldLink RX5 15 "TideLots$Pact" "fishers" "[I" ∈ wsX5_copyFrom := by decide +kernel
theorem i_X5_copyFrom_X5 : ∀ w ∈ u_ws RX5 TX5 8, w ∈ wsX5_copyFrom := by decide +kernel
theorem k_X5_copyFrom_f9 : Cond.fieldLink RX5 9 "TideLots$Pact" "ground" "I" ∈ wsX5_copyFrom := by decide +kernel
theorem k_X5_copyFrom_f19 : Cond.fieldLink RX5 19 "TideLots$Pact" "sumStart" "I" ∈ wsX5_copyFrom := by decide +kernel
theorem k_X5_copyFrom_f22 : Cond.fieldLink RX5 22 "TideLots$Pact" "sumEnd" "I" ∈ wsX5_copyFrom := by decide +kernel
theorem k_X5_copyFrom_f25 : Cond.fieldLink RX5 25 "TideLots$Pact" "size" "I" ∈ wsX5_copyFrom := by decide +kernel
theorem k_X5_copyFrom_f28 : Cond.fieldLink RX5 28 "TideLots$Pact" "shown" "I" ∈ wsX5_copyFrom := by decide +kernel
theorem k_X5_copyFrom_f31 : Cond.fieldLink RX5 31 "TideLots$Pact" "hidden" "I" ∈ wsX5_copyFrom := by decide +kernel
theorem k_X5_copyFrom_f34 : Cond.fieldLink RX5 34 "TideLots$Pact" "hidingTides" "I" ∈ wsX5_copyFrom := by decide +kernel
abbrev rX5_copyFrom : Room := { frames := 0, cells := 0, slots := 0, locals := 0 }
noncomputable def bb_X5_copyFrom_58 (M : gMem) (x0 : Nat) (x1 : Option Nat) (x2 : Int32) : Option ((gMem × Int32) ⊕ (Unit × gMem)) :=
  (if (8 : Int32) ≤ x2 then oI (some ((), M)) else ck (mT M x0 = 5) <| dr x1 fun a3 => ck (mT M a3 = 5) <| dr ((mR M a3 4)) fun a5 => ck (mT M a5 = 20) <| ck (inb x2 (mL M a5)) <| dr ((mR M x0 4)) fun a8 => ck (mT M a8 = 20) <| ck (inb x2 (mL M a8)) <| lw (wI M a8 x2.toNatClampNeg ((mI M a5 x2.toNatClampNeg))) fun M11 => some (.inl (M11, (x2 + (1 : Int32)))))
noncomputable def lp_X5_copyFrom_58 (M : gMem) (x0 : Nat) (x1 : Option Nat) (x2 : Int32) : Option (Unit × gMem) :=
  lp (fun (q : gMem × Int32) => bb_X5_copyFrom_58 q.1 x0 x1 q.2) (M, x2)
noncomputable def b_X5_copyFrom_0 (M : gMem) (x0 : Nat) (x1 : Option Nat) : Option (Unit × gMem) :=
  dr x1 fun a16 => ck (mT M a16 = 5) <| ck (mT M x0 = 5) <| lw (wI M x0 0 ((mI M a16 0))) fun M19 => lw (wI M19 x0 1 ((mI M19 a16 1))) fun M22 => lw (wI M22 x0 2 ((mI M22 a16 2))) fun M25 => lw (wI M25 x0 3 ((mI M25 a16 3))) fun M28 => lw (wI M28 x0 5 ((mI M28 a16 5))) fun M31 => lw (wI M31 x0 6 ((mI M31 a16 6))) fun M34 => lw (wI M34 x0 7 ((mI M34 a16 7))) fun M37 => lp_X5_copyFrom_58 M37 x0 x1 ((0 : Int32))
noncomputable def f_X5_copyFrom (M : gMem) (x0 : Nat) (x1 : Option Nat) : Option (Unit × gMem) :=
  b_X5_copyFrom_0 M x0 x1
set_option maxHeartbeats 4000000 in
set_option maxRecDepth 100000 in
theorem tb_X5_copyFrom_58 (X : gX p s m args meth c D cy B (gSt Z B H0) RX5 cX5_copyFrom wsX5_copyFrom 3) (hr : meth.sig.returnType = none) {Q : State → Prop} : ∀ (M : gMem) (x0 : Nat) (x1 : Option Nat) (x2 : Int32) (z : (gMem × Int32) ⊕ (Unit × gMem)), bb_X5_copyFrom_58 M x0 x1 x2 = some z → (Sum.elim (fun (q : gMem × Int32) => gGo p l e rX5_copyFrom s m args below meth c D cy B H0 3 0 0 Q 58 [(0, vR (some x0)), (1, vR x1), (2, vI q.2)] [] q.1) (fun (r : Unit × gMem) => Q = gMQ below D cy B H0 args s 0 0 none r.2)) z → gGo p l e rX5_copyFrom s m args below meth c D cy B H0 3 0 0 Q 58 [(0, vR (some x0)), (1, vR x1), (2, vI x2)] [] M := by
  intro M x0 x1 x2 z hf hK
  unfold bb_X5_copyFrom_58 at hf
  refine g_iload_n X dX5_copyFrom_58 rfl rfl ?_
  refine g_bipush (v := (8 : Int32)) X dX5_copyFrom_59 (by decide) ?_
  refine g_icmp_ge (tgt := 82) X dX5_copyFrom_61 (by decide) (fun hc => ?_) (fun hc => ?_)
  · have hf := ife_t hc hf
    obtain ⟨w1, hw1, hz1⟩ := oI_e hf
    subst hz1
    have hf := hw1
    cases hf
    refine g_eqQ hK ?_
    exact g_vret X hr dX5_copyFrom_82
  · have hf := ife_f hc hf
    refine g_aload_n X dX5_copyFrom_64 rfl rfl ?_
    obtain ⟨hT2, hf⟩ := ck_e hf
    refine g_get (ci := 4) (v := vR (mR M x0 4)) 4 X cdX5 i_X5_copyFrom_X5 (by decide) k_X5_copyFrom_f15 rfl dX5_copyFrom_65 rfl hT2 rfl ?_
    refine g_iload_n X dX5_copyFrom_68 rfl rfl ?_
    refine g_aload_n X dX5_copyFrom_69 rfl rfl ?_
    obtain ⟨a3, ha3, hf⟩ := dr_e hf
    obtain ⟨hT4, hf⟩ := ck_e hf
    refine g_get (ci := 4) (v := vR (mR M a3 4)) 4 X cdX5 i_X5_copyFrom_X5 (by decide) k_X5_copyFrom_f15 rfl dX5_copyFrom_70 ha3 hT4 rfl ?_
    refine g_iload_n X dX5_copyFrom_73 rfl rfl ?_
    obtain ⟨a5, ha5, hf⟩ := dr_e hf
    obtain ⟨hT6, hf⟩ := ck_e hf
    obtain ⟨hg7, hf⟩ := ck_e hf
    refine g_iald X dX5_copyFrom_74 ha5 hT6 hg7 ?_
    obtain ⟨a8, ha8, hf⟩ := dr_e hf
    obtain ⟨hT9, hf⟩ := ck_e hf
    obtain ⟨hg10, hf⟩ := ck_e hf
    refine g_iast X dX5_copyFrom_75 ha8 hT9 hg10 ?_
    obtain ⟨M11, hM11, hf⟩ := lw_e hf
    rw [← hM11]
    have hT12 : mT M11 x0 = 5 := by rw [hM11]; exact hT2
    have hT13 : mT M11 a3 = 5 := by rw [hM11]; exact hT4
    have hT14 : mT M11 a5 = 20 := by rw [hM11]; exact hT6
    have hT15 : mT M11 a8 = 20 := by rw [hM11]; exact hT9
    refine g_iinc (v := (1 : Int32)) (lv' := [(2, vI (x2 + (1 : Int32))), (0, vR (some x0)), (1, vR x1)]) X dX5_copyFrom_76 rfl (by decide) (by decide) rfl ?_
    refine g_goto (tgt := 58) X dX5_copyFrom_79 (by decide) ?_
    cases hf
    refine g_sub (lvsub_of _ _ [1, 2, 0] rfl) ?_
    exact hK
set_option maxHeartbeats 4000000 in
set_option maxRecDepth 100000 in
theorem tl_X5_copyFrom_58 (X : gX p s m args meth c D cy B (gSt Z B H0) RX5 cX5_copyFrom wsX5_copyFrom 3) (hr : meth.sig.returnType = none) {Q : State → Prop} : ∀ (M : gMem) (x0 : Nat) (x1 : Option Nat) (x2 : Int32) (z : Unit × gMem), lp_X5_copyFrom_58 M x0 x1 x2 = some z → (fun (r : Unit × gMem) => Q = gMQ below D cy B H0 args s 0 0 none r.2) z → gGo p l e rX5_copyFrom s m args below meth c D cy B H0 3 0 0 Q 58 [(0, vR (some x0)), (1, vR x1), (2, vI x2)] [] M := by
  intro M x0 x1 x2 z hf hK
  refine lp_ind (P := (fun (q : gMem × Int32) (z : Unit × gMem) => (fun (r : Unit × gMem) => Q = gMQ below D cy B H0 args s 0 0 none r.2) z → gGo p l e rX5_copyFrom s m args below meth c D cy B H0 3 0 0 Q 58 [(0, vR (some x0)), (1, vR x1), (2, vI q.2)] [] q.1)) (fun q z hq => ?_) _ _ hf hK
  intro hK
  obtain ⟨w, hw, hm⟩ := hq
  refine tb_X5_copyFrom_58 X hr _ _ _ _ w hw ?_
  cases w with
  | inl a => exact hm hK
  | inr b => cases hm; exact hK
set_option maxHeartbeats 4000000 in
set_option maxRecDepth 100000 in
theorem t_X5_copyFrom_0 (X : gX p s m args meth c D cy B (gSt Z B H0) RX5 cX5_copyFrom wsX5_copyFrom 3) (hr : meth.sig.returnType = none) {Q : State → Prop} : ∀ (M : gMem) (x0 : Nat) (x1 : Option Nat) (z : Unit × gMem), b_X5_copyFrom_0 M x0 x1 = some z → (fun (r : Unit × gMem) => Q = gMQ below D cy B H0 args s 0 0 none r.2) z → gGo p l e rX5_copyFrom s m args below meth c D cy B H0 3 0 0 Q 0 [(0, vR (some x0)), (1, vR x1)] [] M := by
  intro M x0 x1 z hf hK
  unfold b_X5_copyFrom_0 at hf
  refine g_aload_n X dX5_copyFrom_0 rfl rfl ?_
  refine g_aload_n X dX5_copyFrom_1 rfl rfl ?_
  obtain ⟨a16, ha16, hf⟩ := dr_e hf
  obtain ⟨hT17, hf⟩ := ck_e hf
  refine g_get (ci := 4) (v := vI (mI M a16 0)) 0 X cdX5 i_X5_copyFrom_X5 (by decide) k_X5_copyFrom_f9 rfl dX5_copyFrom_2 ha16 hT17 rfl ?_
  obtain ⟨hT18, hf⟩ := ck_e hf
  refine g_putI (ci := 4) 0 X cdX5 i_X5_copyFrom_X5 (by decide) k_X5_copyFrom_f9 rfl dX5_copyFrom_5 rfl hT18 (Or.inl rfl) rfl rfl rfl ?_
  obtain ⟨M19, hM19, hf⟩ := lw_e hf
  rw [← hM19]
  have hT20 : mT M19 a16 = 5 := by rw [hM19]; exact hT17
  have hT21 : mT M19 x0 = 5 := by rw [hM19]; exact hT18
  refine g_aload_n X dX5_copyFrom_8 rfl rfl ?_
  refine g_aload_n X dX5_copyFrom_9 rfl rfl ?_
  refine g_get (ci := 4) (v := vI (mI M19 a16 1)) 1 X cdX5 i_X5_copyFrom_X5 (by decide) k_X5_copyFrom_f19 rfl dX5_copyFrom_10 ha16 hT20 rfl ?_
  refine g_putI (ci := 4) 1 X cdX5 i_X5_copyFrom_X5 (by decide) k_X5_copyFrom_f19 rfl dX5_copyFrom_13 rfl hT21 (Or.inl rfl) rfl rfl rfl ?_
  obtain ⟨M22, hM22, hf⟩ := lw_e hf
  rw [← hM22]
  have hT23 : mT M22 a16 = 5 := by rw [hM22]; exact hT20
  have hT24 : mT M22 x0 = 5 := by rw [hM22]; exact hT21
  refine g_aload_n X dX5_copyFrom_16 rfl rfl ?_
  refine g_aload_n X dX5_copyFrom_17 rfl rfl ?_
  refine g_get (ci := 4) (v := vI (mI M22 a16 2)) 2 X cdX5 i_X5_copyFrom_X5 (by decide) k_X5_copyFrom_f22 rfl dX5_copyFrom_18 ha16 hT23 rfl ?_
  refine g_putI (ci := 4) 2 X cdX5 i_X5_copyFrom_X5 (by decide) k_X5_copyFrom_f22 rfl dX5_copyFrom_21 rfl hT24 (Or.inl rfl) rfl rfl rfl ?_
  obtain ⟨M25, hM25, hf⟩ := lw_e hf
  rw [← hM25]
  have hT26 : mT M25 a16 = 5 := by rw [hM25]; exact hT23
  have hT27 : mT M25 x0 = 5 := by rw [hM25]; exact hT24
  refine g_aload_n X dX5_copyFrom_24 rfl rfl ?_
  refine g_aload_n X dX5_copyFrom_25 rfl rfl ?_
  refine g_get (ci := 4) (v := vI (mI M25 a16 3)) 3 X cdX5 i_X5_copyFrom_X5 (by decide) k_X5_copyFrom_f25 rfl dX5_copyFrom_26 ha16 hT26 rfl ?_
  refine g_putI (ci := 4) 3 X cdX5 i_X5_copyFrom_X5 (by decide) k_X5_copyFrom_f25 rfl dX5_copyFrom_29 rfl hT27 (Or.inl rfl) rfl rfl rfl ?_
  obtain ⟨M28, hM28, hf⟩ := lw_e hf
  rw [← hM28]
  have hT29 : mT M28 a16 = 5 := by rw [hM28]; exact hT26
  have hT30 : mT M28 x0 = 5 := by rw [hM28]; exact hT27
  refine g_aload_n X dX5_copyFrom_32 rfl rfl ?_
  refine g_aload_n X dX5_copyFrom_33 rfl rfl ?_
  refine g_get (ci := 4) (v := vI (mI M28 a16 5)) 5 X cdX5 i_X5_copyFrom_X5 (by decide) k_X5_copyFrom_f28 rfl dX5_copyFrom_34 ha16 hT29 rfl ?_
  refine g_putI (ci := 4) 5 X cdX5 i_X5_copyFrom_X5 (by decide) k_X5_copyFrom_f28 rfl dX5_copyFrom_37 rfl hT30 (Or.inl rfl) rfl rfl rfl ?_
  obtain ⟨M31, hM31, hf⟩ := lw_e hf
  rw [← hM31]
  have hT32 : mT M31 a16 = 5 := by rw [hM31]; exact hT29
  have hT33 : mT M31 x0 = 5 := by rw [hM31]; exact hT30
  refine g_aload_n X dX5_copyFrom_40 rfl rfl ?_
  refine g_aload_n X dX5_copyFrom_41 rfl rfl ?_
  refine g_get (ci := 4) (v := vI (mI M31 a16 6)) 6 X cdX5 i_X5_copyFrom_X5 (by decide) k_X5_copyFrom_f31 rfl dX5_copyFrom_42 ha16 hT32 rfl ?_
  refine g_putI (ci := 4) 6 X cdX5 i_X5_copyFrom_X5 (by decide) k_X5_copyFrom_f31 rfl dX5_copyFrom_45 rfl hT33 (Or.inl rfl) rfl rfl rfl ?_
  obtain ⟨M34, hM34, hf⟩ := lw_e hf
  rw [← hM34]
  have hT35 : mT M34 a16 = 5 := by rw [hM34]; exact hT32
  have hT36 : mT M34 x0 = 5 := by rw [hM34]; exact hT33
  refine g_aload_n X dX5_copyFrom_48 rfl rfl ?_
  refine g_aload_n X dX5_copyFrom_49 rfl rfl ?_
  refine g_get (ci := 4) (v := vI (mI M34 a16 7)) 7 X cdX5 i_X5_copyFrom_X5 (by decide) k_X5_copyFrom_f34 rfl dX5_copyFrom_50 ha16 hT35 rfl ?_
  refine g_putI (ci := 4) 7 X cdX5 i_X5_copyFrom_X5 (by decide) k_X5_copyFrom_f34 rfl dX5_copyFrom_53 rfl hT36 (Or.inl rfl) rfl rfl rfl ?_
  obtain ⟨M37, hM37, hf⟩ := lw_e hf
  rw [← hM37]
  have hT38 : mT M37 a16 = 5 := by rw [hM37]; exact hT35
  have hT39 : mT M37 x0 = 5 := by rw [hM37]; exact hT36
  refine g_iconst (v := (0 : Int32)) X dX5_copyFrom_56 (by decide) ?_
  refine g_istore_n (lv' := [(2, vI (0 : Int32)), (0, vR (some x0)), (1, vR x1)]) X dX5_copyFrom_57 rfl (by decide) rfl ?_
  refine g_sub (lvsub_of _ _ [1, 2, 0] rfl) ?_
  exact tl_X5_copyFrom_58 X hr _ _ _ _ _ hf hK
set_option maxHeartbeats 4000000 in
set_option maxRecDepth 100000 in
theorem m_X5_copyFrom (l : Launch) {D : va_G} {cy : Nat → ClassId} {B : Nat} {H0 : Heap} {Z : Nat → Nat} {M M1 : gMem} {x0 : Nat} {x1 : Option Nat} {r : Unit} (hf : f_X5_copyFrom M x0 x1 = some (r, M1)) : Met l yX5_copyFrom wsX5_copyFrom rX5_copyFrom (va_Pc (Value.ref x0 :: List.map gv [vR x1]) (gPre D cy B H0 (gSt Z B H0) M)) (gQ D cy B H0 none M1) 0 0 (gA B) := by
  refine Met.ofW (cc := cX5_copyFrom) (maxL := 3) (ret := none) (by decide) rfl ?_
  intro p e s m args below meth c s₁ Bd hml hv
  obtain ⟨rfl, hW, hKK, hFs⟩ := hv
  have X : gX p s m _ meth c D cy B (gSt Z B H0) RX5 cX5_copyFrom wsX5_copyFrom 3 := ⟨Bd.exec, Bd.bytes, atoms_spec (ws := wsX5_copyFrom) Bd.pre, findClass_of_methodNamed Bd.named, hml, hKK, by rw [hW.1]; exact hW.2.1, Bd.notSynchronized, hFs⟩
  have hr := Bd.returns
  rcases x1 with _ | x1
  · have hl := lv_entry ([.ref x0, .null]) (n := 3) (Nat.le_of_ble_eq_true rfl)
    show W p l e rX5_copyFrom s m _ below meth c s.heap [] 0 0 _ (entryFrame m ([.ref x0, .null] : List Value).toArray 3)
    rw [lg_entry_eq]
    generalize (lg_sl ([.ref x0, .null]) ++ List.replicate (3 - (lg_sl ([.ref x0, .null])).length) Slot.unset).toArray = ls at hl ⊢
    have hl : lv_has ls 3 (List.map gq [(0, vR (some x0)), (1, vR none)]) := hl
    exact t_X5_copyFrom_0 X hr _ _ _ _ hf rfl s.heap [] ls hW va_S.rf (lv_has_sub hl (lvsub_of _ _ [0, 1] rfl))
  · have hl := lv_entry ([.ref x0, .ref x1]) (n := 3) (Nat.le_of_ble_eq_true rfl)
    show W p l e rX5_copyFrom s m _ below meth c s.heap [] 0 0 _ (entryFrame m ([.ref x0, .ref x1] : List Value).toArray 3)
    rw [lg_entry_eq]
    generalize (lg_sl ([.ref x0, .ref x1]) ++ List.replicate (3 - (lg_sl ([.ref x0, .ref x1])).length) Slot.unset).toArray = ls at hl ⊢
    have hl : lv_has ls 3 (List.map gq [(0, vR (some x0)), (1, vR (some x1))]) := hl
    exact t_X5_copyFrom_0 X hr _ _ _ _ hf rfl s.heap [] ls hW va_S.rf (lv_has_sub hl (lvsub_of _ _ [0, 1] rfl))
/-! ## TideLots$Names.find(J)I -/
theorem dX4_find_0 : decode cX4_find 0 = .ok (.iconst 0, 1) := by decide +kernel
theorem dX4_find_1 : decode cX4_find 1 = .ok (.istore_n 3, 1) := by decide +kernel
theorem dX4_find_2 : decode cX4_find 2 = .ok (.iload_n 3, 1) := by decide +kernel
theorem dX4_find_3 : decode cX4_find 3 = .ok (.aload_n 0, 1) := by decide +kernel
theorem dX4_find_4 : decode cX4_find 4 = .ok (.getfield 19, 3) := by decide +kernel
theorem dX4_find_7 : decode cX4_find 7 = .ok (.if_icmp .ge 22, 3) := by decide +kernel
theorem dX4_find_10 : decode cX4_find 10 = .ok (.aload_n 0, 1) := by decide +kernel
theorem dX4_find_11 : decode cX4_find 11 = .ok (.getfield 13, 3) := by decide +kernel
theorem dX4_find_14 : decode cX4_find 14 = .ok (.iload_n 3, 1) := by decide +kernel
theorem dX4_find_15 : decode cX4_find 15 = .ok (.laload, 1) := by decide +kernel
theorem dX4_find_16 : decode cX4_find 16 = .ok (.lload_n 1, 1) := by decide +kernel
theorem dX4_find_17 : decode cX4_find 17 = .ok (.lcmp, 1) := by decide +kernel
theorem dX4_find_18 : decode cX4_find 18 = .ok (.ifCond .ne 5, 3) := by decide +kernel
theorem dX4_find_21 : decode cX4_find 21 = .ok (.iload_n 3, 1) := by decide +kernel
theorem dX4_find_22 : decode cX4_find 22 = .ok (.ireturn, 1) := by decide +kernel
theorem dX4_find_23 : decode cX4_find 23 = .ok (.iinc 3 1, 3) := by decide +kernel
theorem dX4_find_26 : decode cX4_find 26 = .ok (.goto (-24), 3) := by decide +kernel
theorem dX4_find_29 : decode cX4_find 29 = .ok (.iconst (-1), 1) := by decide +kernel
theorem dX4_find_30 : decode cX4_find 30 = .ok (.ireturn, 1) := by decide +kernel
theorem k_X4_find_f19 : Cond.fieldLink RX4 19 "TideLots$Names" "size" "I" ∈ wsX4_find := by decide +kernel
theorem i_X4_find_X4 : ∀ w ∈ u_ws RX4 TX4 2, w ∈ wsX4_find := by decide +kernel
theorem k_X4_find_f13 : Cond.fieldLink RX4 13 "TideLots$Names" "words" "[J" ∈ wsX4_find := by decide +kernel
abbrev rX4_find : Room := { frames := 0, cells := 0, slots := 0, locals := 0 }
noncomputable def bb_X4_find_2 (M : gMem) (x0 : Nat) (x1 : Int64) (x3 : Int32) : Option ((gMem × Int32) ⊕ (Int32 × gMem)) :=
  ck (mT M x0 = 4) <| (if (mI M x0 1) ≤ x3 then oI (some ((-1 : Int32), M)) else dr ((mR M x0 0)) fun a3 => ck (mT M a3 = 21) <| ck (inb x3 (mL M a3)) <| (if (lg_cmp ((mJ M a3 x3.toNatClampNeg)) x1) = 0 then oI (some (x3, M)) else some (.inl (M, (x3 + (1 : Int32))))))
noncomputable def lp_X4_find_2 (M : gMem) (x0 : Nat) (x1 : Int64) (x3 : Int32) : Option (Int32 × gMem) :=
  lp (fun (q : gMem × Int32) => bb_X4_find_2 q.1 x0 x1 q.2) (M, x3)
noncomputable def b_X4_find_0 (M : gMem) (x0 : Nat) (x1 : Int64) : Option (Int32 × gMem) :=
  lp_X4_find_2 M x0 x1 ((0 : Int32))
noncomputable def f_X4_find (M : gMem) (x0 : Nat) (x1 : Int64) : Option (Int32 × gMem) :=
  b_X4_find_0 M x0 x1
set_option maxHeartbeats 4000000 in
set_option maxRecDepth 100000 in
theorem tb_X4_find_2 (X : gX p s m args meth c D cy B (gSt Z B H0) RX4 cX4_find wsX4_find 4) (hr : meth.sig.returnType = (some .int)) {Q : State → Prop} : ∀ (M : gMem) (x0 : Nat) (x1 : Int64) (x3 : Int32) (z : (gMem × Int32) ⊕ (Int32 × gMem)), bb_X4_find_2 M x0 x1 x3 = some z → (Sum.elim (fun (q : gMem × Int32) => gGo p l e rX4_find s m args below meth c D cy B H0 4 0 0 Q 2 [(0, vR (some x0)), (1, vJ x1), (3, vI q.2)] [] q.1) (fun (r : Int32 × gMem) => Q = gMQ below D cy B H0 args s 0 0 (some (vI r.1)) r.2)) z → gGo p l e rX4_find s m args below meth c D cy B H0 4 0 0 Q 2 [(0, vR (some x0)), (1, vJ x1), (3, vI x3)] [] M := by
  intro M x0 x1 x3 z hf hK
  unfold bb_X4_find_2 at hf
  refine g_iload_n X dX4_find_2 rfl rfl ?_
  refine g_aload_n X dX4_find_3 rfl rfl ?_
  obtain ⟨hT1, hf⟩ := ck_e hf
  refine g_get (ci := 3) (v := vI (mI M x0 1)) 1 X cdX4 i_X4_find_X4 (by decide) k_X4_find_f19 rfl dX4_find_4 rfl hT1 rfl ?_
  refine g_icmp_ge (tgt := 29) X dX4_find_7 (by decide) (fun hc => ?_) (fun hc => ?_)
  · have hf := ife_t hc hf
    refine g_iconst (v := (-1 : Int32)) X dX4_find_29 (by decide) ?_
    obtain ⟨w2, hw2, hz2⟩ := oI_e hf
    subst hz2
    have hf := hw2
    cases hf
    refine g_eqQ hK ?_
    exact g_iret X hr dX4_find_30
  · have hf := ife_f hc hf
    refine g_aload_n X dX4_find_10 rfl rfl ?_
    refine g_get (ci := 3) (v := vR (mR M x0 0)) 0 X cdX4 i_X4_find_X4 (by decide) k_X4_find_f13 rfl dX4_find_11 rfl hT1 rfl ?_
    refine g_iload_n X dX4_find_14 rfl rfl ?_
    obtain ⟨a3, ha3, hf⟩ := dr_e hf
    obtain ⟨hT4, hf⟩ := ck_e hf
    obtain ⟨hg5, hf⟩ := ck_e hf
    refine g_lald X dX4_find_15 ha3 hT4 hg5 ?_
    refine g_lload_n X dX4_find_16 rfl rfl ?_
    refine g_lcmp X dX4_find_17 ?_
    refine g_if_ne (tgt := 23) X dX4_find_18 (by decide) (fun hc => ?_) (fun hc => ?_)
    · have hf := ife_f hc hf
      refine g_iinc (v := (1 : Int32)) (lv' := [(3, vI (x3 + (1 : Int32))), (0, vR (some x0)), (1, vJ x1)]) X dX4_find_23 rfl (by decide) (by decide) rfl ?_
      refine g_goto (tgt := 2) X dX4_find_26 (by decide) ?_
      cases hf
      refine g_sub (lvsub_of _ _ [1, 2, 0] rfl) ?_
      exact hK
    · have hf := ife_t hc hf
      refine g_iload_n X dX4_find_21 rfl rfl ?_
      obtain ⟨w6, hw6, hz6⟩ := oI_e hf
      subst hz6
      have hf := hw6
      cases hf
      refine g_eqQ hK ?_
      exact g_iret X hr dX4_find_22
set_option maxHeartbeats 4000000 in
set_option maxRecDepth 100000 in
theorem tl_X4_find_2 (X : gX p s m args meth c D cy B (gSt Z B H0) RX4 cX4_find wsX4_find 4) (hr : meth.sig.returnType = (some .int)) {Q : State → Prop} : ∀ (M : gMem) (x0 : Nat) (x1 : Int64) (x3 : Int32) (z : Int32 × gMem), lp_X4_find_2 M x0 x1 x3 = some z → (fun (r : Int32 × gMem) => Q = gMQ below D cy B H0 args s 0 0 (some (vI r.1)) r.2) z → gGo p l e rX4_find s m args below meth c D cy B H0 4 0 0 Q 2 [(0, vR (some x0)), (1, vJ x1), (3, vI x3)] [] M := by
  intro M x0 x1 x3 z hf hK
  refine lp_ind (P := (fun (q : gMem × Int32) (z : Int32 × gMem) => (fun (r : Int32 × gMem) => Q = gMQ below D cy B H0 args s 0 0 (some (vI r.1)) r.2) z → gGo p l e rX4_find s m args below meth c D cy B H0 4 0 0 Q 2 [(0, vR (some x0)), (1, vJ x1), (3, vI q.2)] [] q.1)) (fun q z hq => ?_) _ _ hf hK
  intro hK
  obtain ⟨w, hw, hm⟩ := hq
  refine tb_X4_find_2 X hr _ _ _ _ w hw ?_
  cases w with
  | inl a => exact hm hK
  | inr b => cases hm; exact hK
set_option maxHeartbeats 4000000 in
set_option maxRecDepth 100000 in
theorem t_X4_find_0 (X : gX p s m args meth c D cy B (gSt Z B H0) RX4 cX4_find wsX4_find 4) (hr : meth.sig.returnType = (some .int)) {Q : State → Prop} : ∀ (M : gMem) (x0 : Nat) (x1 : Int64) (z : Int32 × gMem), b_X4_find_0 M x0 x1 = some z → (fun (r : Int32 × gMem) => Q = gMQ below D cy B H0 args s 0 0 (some (vI r.1)) r.2) z → gGo p l e rX4_find s m args below meth c D cy B H0 4 0 0 Q 0 [(0, vR (some x0)), (1, vJ x1)] [] M := by
  intro M x0 x1 z hf hK
  unfold b_X4_find_0 at hf
  refine g_iconst (v := (0 : Int32)) X dX4_find_0 (by decide) ?_
  refine g_istore_n (lv' := [(3, vI (0 : Int32)), (0, vR (some x0)), (1, vJ x1)]) X dX4_find_1 rfl (by decide) rfl ?_
  refine g_sub (lvsub_of _ _ [1, 2, 0] rfl) ?_
  exact tl_X4_find_2 X hr _ _ _ _ _ hf hK
set_option maxHeartbeats 4000000 in
set_option maxRecDepth 100000 in
theorem m_X4_find (l : Launch) {D : va_G} {cy : Nat → ClassId} {B : Nat} {H0 : Heap} {Z : Nat → Nat} {M M1 : gMem} {x0 : Nat} {x1 : Int64} {r : Int32} (hf : f_X4_find M x0 x1 = some (r, M1)) : Met l yX4_find wsX4_find rX4_find (va_Pc (Value.ref x0 :: List.map gv [vJ x1]) (gPre D cy B H0 (gSt Z B H0) M)) (gQ D cy B H0 (some (vI r)) M1) 0 0 (gA B) := by
  refine Met.ofW (cc := cX4_find) (maxL := 4) (ret := (some .int)) (by decide) rfl ?_
  intro p e s m args below meth c s₁ Bd hml hv
  obtain ⟨rfl, hW, hKK, hFs⟩ := hv
  have X : gX p s m _ meth c D cy B (gSt Z B H0) RX4 cX4_find wsX4_find 4 := ⟨Bd.exec, Bd.bytes, atoms_spec (ws := wsX4_find) Bd.pre, findClass_of_methodNamed Bd.named, hml, hKK, by rw [hW.1]; exact hW.2.1, Bd.notSynchronized, hFs⟩
  have hr := Bd.returns
  have hl := lv_entry ([.ref x0, .long x1]) (n := 4) (Nat.le_of_ble_eq_true rfl)
  show W p l e rX4_find s m _ below meth c s.heap [] 0 0 _ (entryFrame m ([.ref x0, .long x1] : List Value).toArray 4)
  rw [lg_entry_eq]
  generalize (lg_sl ([.ref x0, .long x1]) ++ List.replicate (4 - (lg_sl ([.ref x0, .long x1])).length) Slot.unset).toArray = ls at hl ⊢
  have hl : lv_has ls 4 (List.map gq [(0, vR (some x0)), (1, vJ x1)]) := hl
  exact t_X4_find_0 X hr _ _ _ _ hf rfl s.heap [] ls hW va_S.rf (lv_has_sub hl (lvsub_of _ _ [0, 1] rfl))
/-! ## TideLots$Names.add(J)Z -/
theorem dX4_add_0 : decode cX4_add 0 = .ok (.aload_n 0, 1) := by decide +kernel
theorem dX4_add_1 : decode cX4_add 1 = .ok (.getfield 19, 3) := by decide +kernel
theorem dX4_add_4 : decode cX4_add 4 = .ok (.aload_n 0, 1) := by decide +kernel
theorem dX4_add_5 : decode cX4_add 5 = .ok (.getfield 13, 3) := by decide +kernel
theorem dX4_add_8 : decode cX4_add 8 = .ok (.arraylength, 1) := by decide +kernel
theorem dX4_add_9 : decode cX4_add 9 = .ok (.if_icmp .lt 5, 3) := by decide +kernel
theorem dX4_add_12 : decode cX4_add 12 = .ok (.iconst 0, 1) := by decide +kernel
theorem dX4_add_13 : decode cX4_add 13 = .ok (.ireturn, 1) := by decide +kernel
theorem dX4_add_14 : decode cX4_add 14 = .ok (.aload_n 0, 1) := by decide +kernel
theorem dX4_add_15 : decode cX4_add 15 = .ok (.getfield 13, 3) := by decide +kernel
theorem dX4_add_18 : decode cX4_add 18 = .ok (.aload_n 0, 1) := by decide +kernel
theorem dX4_add_19 : decode cX4_add 19 = .ok (.getfield 19, 3) := by decide +kernel
theorem dX4_add_22 : decode cX4_add 22 = .ok (.lload_n 1, 1) := by decide +kernel
theorem dX4_add_23 : decode cX4_add 23 = .ok (.lastore, 1) := by decide +kernel
theorem dX4_add_24 : decode cX4_add 24 = .ok (.aload_n 0, 1) := by decide +kernel
theorem dX4_add_25 : decode cX4_add 25 = .ok (.dup, 1) := by decide +kernel
theorem dX4_add_26 : decode cX4_add 26 = .ok (.getfield 19, 3) := by decide +kernel
theorem dX4_add_29 : decode cX4_add 29 = .ok (.iconst 1, 1) := by decide +kernel
theorem dX4_add_30 : decode cX4_add 30 = .ok (.iadd, 1) := by decide +kernel
theorem dX4_add_31 : decode cX4_add 31 = .ok (.putfield 19, 3) := by decide +kernel
theorem dX4_add_34 : decode cX4_add 34 = .ok (.iconst 1, 1) := by decide +kernel
theorem dX4_add_35 : decode cX4_add 35 = .ok (.ireturn, 1) := by decide +kernel
theorem k_X4_add_f19 : Cond.fieldLink RX4 19 "TideLots$Names" "size" "I" ∈ wsX4_add := by decide +kernel
theorem i_X4_add_X4 : ∀ w ∈ u_ws RX4 TX4 2, w ∈ wsX4_add := by decide +kernel
theorem k_X4_add_f13 : Cond.fieldLink RX4 13 "TideLots$Names" "words" "[J" ∈ wsX4_add := by decide +kernel
abbrev rX4_add : Room := { frames := 0, cells := 0, slots := 0, locals := 0 }
noncomputable def b_X4_add_0 (M : gMem) (x0 : Nat) (x1 : Int64) : Option (Int32 × gMem) :=
  ck (mT M x0 = 4) <| dr ((mR M x0 0)) fun a2 => ck (mT M a2 = 21) <| (if (mI M x0 1) < (Int32.ofNat (mL M a2)) then ck (inb (mI M x0 1) (mL M a2)) <| lw (wJ M a2 ((mI M x0 1)).toNatClampNeg x1) fun M5 => lw (wI M5 x0 1 (((mI M5 x0 1) + (1 : Int32)))) fun M8 => some ((1 : Int32), M8) else some ((0 : Int32), M))
noncomputable def f_X4_add (M : gMem) (x0 : Nat) (x1 : Int64) : Option (Int32 × gMem) :=
  b_X4_add_0 M x0 x1
set_option maxHeartbeats 4000000 in
set_option maxRecDepth 100000 in
theorem t_X4_add_0 (X : gX p s m args meth c D cy B (gSt Z B H0) RX4 cX4_add wsX4_add 3) (hr : meth.sig.returnType = (some .boolean)) {Q : State → Prop} : ∀ (M : gMem) (x0 : Nat) (x1 : Int64) (z : Int32 × gMem), b_X4_add_0 M x0 x1 = some z → (fun (r : Int32 × gMem) => Q = gMQ below D cy B H0 args s 0 0 (some (vI r.1)) r.2) z → gGo p l e rX4_add s m args below meth c D cy B H0 3 0 0 Q 0 [(0, vR (some x0)), (1, vJ x1)] [] M := by
  intro M x0 x1 z hf hK
  unfold b_X4_add_0 at hf
  refine g_aload_n X dX4_add_0 rfl rfl ?_
  obtain ⟨hT1, hf⟩ := ck_e hf
  refine g_get (ci := 3) (v := vI (mI M x0 1)) 1 X cdX4 i_X4_add_X4 (by decide) k_X4_add_f19 rfl dX4_add_1 rfl hT1 rfl ?_
  refine g_aload_n X dX4_add_4 rfl rfl ?_
  refine g_get (ci := 3) (v := vR (mR M x0 0)) 0 X cdX4 i_X4_add_X4 (by decide) k_X4_add_f13 rfl dX4_add_5 rfl hT1 rfl ?_
  obtain ⟨a2, ha2, hf⟩ := dr_e hf
  obtain ⟨hT3, hf⟩ := ck_e hf
  refine g_alen (t0 := 1) X dX4_add_8 ha2 hT3 (by decide) rfl ?_
  refine g_icmp_lt (tgt := 14) X dX4_add_9 (by decide) (fun hc => ?_) (fun hc => ?_)
  · have hf := ife_t hc hf
    refine g_aload_n X dX4_add_14 rfl rfl ?_
    refine g_get (ci := 3) (v := vR (mR M x0 0)) 0 X cdX4 i_X4_add_X4 (by decide) k_X4_add_f13 rfl dX4_add_15 rfl hT1 rfl ?_
    refine g_aload_n X dX4_add_18 rfl rfl ?_
    refine g_get (ci := 3) (v := vI (mI M x0 1)) 1 X cdX4 i_X4_add_X4 (by decide) k_X4_add_f19 rfl dX4_add_19 rfl hT1 rfl ?_
    refine g_lload_n X dX4_add_22 rfl rfl ?_
    obtain ⟨hg4, hf⟩ := ck_e hf
    refine g_last X dX4_add_23 ha2 hT3 hg4 ?_
    obtain ⟨M5, hM5, hf⟩ := lw_e hf
    rw [← hM5]
    have hT6 : mT M5 x0 = 4 := by rw [hM5]; exact hT1
    have hT7 : mT M5 a2 = 21 := by rw [hM5]; exact hT3
    refine g_aload_n X dX4_add_24 rfl rfl ?_
    refine g_dup X dX4_add_25 rfl ?_
    refine g_get (ci := 3) (v := vI (mI M5 x0 1)) 1 X cdX4 i_X4_add_X4 (by decide) k_X4_add_f19 rfl dX4_add_26 rfl hT6 rfl ?_
    refine g_iconst (v := (1 : Int32)) X dX4_add_29 (by decide) ?_
    refine g_iadd X dX4_add_30 ?_
    refine g_putI (ci := 3) 1 X cdX4 i_X4_add_X4 (by decide) k_X4_add_f19 rfl dX4_add_31 rfl hT6 (Or.inl rfl) rfl rfl rfl ?_
    obtain ⟨M8, hM8, hf⟩ := lw_e hf
    rw [← hM8]
    have hT9 : mT M8 x0 = 4 := by rw [hM8]; exact hT6
    have hT10 : mT M8 a2 = 21 := by rw [hM8]; exact hT7
    refine g_iconst (v := (1 : Int32)) X dX4_add_34 (by decide) ?_
    cases hf
    refine g_eqQ hK ?_
    exact g_zret X hr (gnb (Or.inr rfl)) dX4_add_35
  · have hf := ife_f hc hf
    refine g_iconst (v := (0 : Int32)) X dX4_add_12 (by decide) ?_
    cases hf
    refine g_eqQ hK ?_
    exact g_zret X hr (gnb (Or.inl rfl)) dX4_add_13
set_option maxHeartbeats 4000000 in
set_option maxRecDepth 100000 in
theorem m_X4_add (l : Launch) {D : va_G} {cy : Nat → ClassId} {B : Nat} {H0 : Heap} {Z : Nat → Nat} {M M1 : gMem} {x0 : Nat} {x1 : Int64} {r : Int32} (hf : f_X4_add M x0 x1 = some (r, M1)) : Met l yX4_add wsX4_add rX4_add (va_Pc (Value.ref x0 :: List.map gv [vJ x1]) (gPre D cy B H0 (gSt Z B H0) M)) (gQ D cy B H0 (some (vI r)) M1) 0 0 (gA B) := by
  refine Met.ofW (cc := cX4_add) (maxL := 3) (ret := (some .boolean)) (by decide) rfl ?_
  intro p e s m args below meth c s₁ Bd hml hv
  obtain ⟨rfl, hW, hKK, hFs⟩ := hv
  have X : gX p s m _ meth c D cy B (gSt Z B H0) RX4 cX4_add wsX4_add 3 := ⟨Bd.exec, Bd.bytes, atoms_spec (ws := wsX4_add) Bd.pre, findClass_of_methodNamed Bd.named, hml, hKK, by rw [hW.1]; exact hW.2.1, Bd.notSynchronized, hFs⟩
  have hr := Bd.returns
  have hl := lv_entry ([.ref x0, .long x1]) (n := 3) (Nat.le_of_ble_eq_true rfl)
  show W p l e rX4_add s m _ below meth c s.heap [] 0 0 _ (entryFrame m ([.ref x0, .long x1] : List Value).toArray 3)
  rw [lg_entry_eq]
  generalize (lg_sl ([.ref x0, .long x1]) ++ List.replicate (3 - (lg_sl ([.ref x0, .long x1])).length) Slot.unset).toArray = ls at hl ⊢
  have hl : lv_has ls 3 (List.map gq [(0, vR (some x0)), (1, vJ x1)]) := hl
  exact t_X4_add_0 X hr _ _ _ _ hf rfl s.heap [] ls hW va_S.rf (lv_has_sub hl (lvsub_of _ _ [0, 1] rfl))
end
