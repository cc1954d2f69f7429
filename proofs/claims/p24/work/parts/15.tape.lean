section
variable {p : Program} {l : Launch} {e : Env} {s : State} {m : MethodId} {args : Array Value} {below : List Frame} {meth : Method} {c : Code} {D : va_G} {cy : Nat → ClassId} {B : Nat} {H0 : Heap} {Z : Nat → Nat}
/-! ## TideLots$Tape.append(I)V -/
theorem dX10_append_0 : decode cX10_append 0 = .ok (.bipush 24, 2) := by decide +kernel
theorem dX10_append_2 : decode cX10_append 2 = .ok (.istore_n 2, 1) := by decide +kernel
theorem dX10_append_3 : decode cX10_append 3 = .ok (.iload_n 2, 1) := by decide +kernel
theorem dX10_append_4 : decode cX10_append 4 = .ok (.ifCond .lt 44, 3) := by decide +kernel
theorem dX10_append_7 : decode cX10_append 7 = .ok (.aload_n 0, 1) := by decide +kernel
theorem dX10_append_8 : decode cX10_append 8 = .ok (.getfield 33, 3) := by decide +kernel
theorem dX10_append_11 : decode cX10_append 11 = .ok (.aload_n 0, 1) := by decide +kernel
theorem dX10_append_12 : decode cX10_append 12 = .ok (.getfield 9, 3) := by decide +kernel
theorem dX10_append_15 : decode cX10_append 15 = .ok (.arraylength, 1) := by decide +kernel
theorem dX10_append_16 : decode cX10_append 16 = .ok (.if_icmp .ge 26, 3) := by decide +kernel
theorem dX10_append_19 : decode cX10_append 19 = .ok (.aload_n 0, 1) := by decide +kernel
theorem dX10_append_20 : decode cX10_append 20 = .ok (.getfield 9, 3) := by decide +kernel
theorem dX10_append_23 : decode cX10_append 23 = .ok (.aload_n 0, 1) := by decide +kernel
theorem dX10_append_24 : decode cX10_append 24 = .ok (.getfield 33, 3) := by decide +kernel
theorem dX10_append_27 : decode cX10_append 27 = .ok (.iload_n 1, 1) := by decide +kernel
theorem dX10_append_28 : decode cX10_append 28 = .ok (.iload_n 2, 1) := by decide +kernel
theorem dX10_append_29 : decode cX10_append 29 = .ok (.iushr, 1) := by decide +kernel
theorem dX10_append_30 : decode cX10_append 30 = .ok (.i2b, 1) := by decide +kernel
theorem dX10_append_31 : decode cX10_append 31 = .ok (.bastore, 1) := by decide +kernel
theorem dX10_append_32 : decode cX10_append 32 = .ok (.aload_n 0, 1) := by decide +kernel
theorem dX10_append_33 : decode cX10_append 33 = .ok (.dup, 1) := by decide +kernel
theorem dX10_append_34 : decode cX10_append 34 = .ok (.getfield 33, 3) := by decide +kernel
theorem dX10_append_37 : decode cX10_append 37 = .ok (.iconst 1, 1) := by decide +kernel
theorem dX10_append_38 : decode cX10_append 38 = .ok (.iadd, 1) := by decide +kernel
theorem dX10_append_39 : decode cX10_append 39 = .ok (.putfield 33, 3) := by decide +kernel
theorem dX10_append_42 : decode cX10_append 42 = .ok (.iinc 2 (-8), 3) := by decide +kernel
theorem dX10_append_45 : decode cX10_append 45 = .ok (.goto (-42), 3) := by decide +kernel
theorem dX10_append_48 : decode cX10_append 48 = .ok (.return_, 1) := by decide +kernel
theorem k_X10_append_f33 : Cond.fieldLink RX10 33 "TideLots$Tape" "length" "I" ∈ wsX10_append := by decide +kernel
theorem i_X10_append_X10 : ∀ w ∈ u_ws RX10 TX10 6, w ∈ wsX10_append := by decide +kernel
theorem k_X10_append_f9 : Cond.fieldLink RX10 9 "TideLots$Tape" "bytes" "[B" ∈ wsX10_append := by decide +kernel
abbrev rX10_append : Room := { frames := 0, cells := 0, slots := 0, locals := 0 }
noncomputable def b_X10_append_42 (M : gMem) (x0 : Nat) (x1 : Int32) (x2 : Int32) : Option ((gMem × Int32) ⊕ (Unit × gMem)) :=
  some (.inl (M, (x2 + (-8 : Int32))))
noncomputable def bb_X10_append_3 (M : gMem) (x0 : Nat) (x1 : Int32) (x2 : Int32) : Option ((gMem × Int32) ⊕ (Unit × gMem)) :=
  (if x2 < 0 then oI (some ((), M)) else ck (mT M x0 = 9) <| dr ((mR M x0 1)) fun a3 => ck (mT M a3 = 22) <| (if (Int32.ofNat (mL M a3)) ≤ (mI M x0 0) then b_X10_append_42 M x0 x1 x2 else ck (inb (mI M x0 0) (mL M a3)) <| lw (wI M a3 ((mI M x0 0)).toNatClampNeg (vp_nar .byte ((i2bV ((ushr x1 x2)))))) fun M6 => lw (wI M6 x0 0 (((mI M6 x0 0) + (1 : Int32)))) fun M9 => b_X10_append_42 M9 x0 x1 x2))
noncomputable def lp_X10_append_3 (M : gMem) (x0 : Nat) (x1 : Int32) (x2 : Int32) : Option (Unit × gMem) :=
  lp (fun (q : gMem × Int32) => bb_X10_append_3 q.1 x0 x1 q.2) (M, x2)
noncomputable def b_X10_append_0 (M : gMem) (x0 : Nat) (x1 : Int32) : Option (Unit × gMem) :=
  lp_X10_append_3 M x0 x1 ((24 : Int32))
noncomputable def f_X10_append (M : gMem) (x0 : Nat) (x1 : Int32) : Option (Unit × gMem) :=
  b_X10_append_0 M x0 x1
set_option maxHeartbeats 4000000 in
set_option maxRecDepth 100000 in
theorem t_X10_append_42 (X : gX p s m args meth c D cy B (gSt Z B H0) RX10 cX10_append wsX10_append 3) (hr : meth.sig.returnType = none) {Q : State → Prop} : ∀ (M : gMem) (x0 : Nat) (x1 : Int32) (x2 : Int32) (z : (gMem × Int32) ⊕ (Unit × gMem)), b_X10_append_42 M x0 x1 x2 = some z → (Sum.elim (fun (q : gMem × Int32) => gGo p l e rX10_append s m args below meth c D cy B H0 3 0 0 Q 3 [(0, vR (some x0)), (1, vI x1), (2, vI q.2)] [] q.1) (fun (r : Unit × gMem) => Q = gMQ below D cy B H0 args s 0 0 none r.2)) z → gGo p l e rX10_append s m args below meth c D cy B H0 3 0 0 Q 42 [(0, vR (some x0)), (1, vI x1), (2, vI x2)] [] M := by
  intro M x0 x1 x2 z hf hK
  unfold b_X10_append_42 at hf
  refine g_iinc (v := (-8 : Int32)) (lv' := [(2, vI (x2 + (-8 : Int32))), (0, vR (some x0)), (1, vI x1)]) X dX10_append_42 rfl (by decide) (by decide) rfl ?_
  refine g_goto (tgt := 3) X dX10_append_45 (by decide) ?_
  cases hf
  refine g_sub (lvsub_of _ _ [1, 2, 0] rfl) ?_
  exact hK
set_option maxHeartbeats 4000000 in
set_option maxRecDepth 100000 in
theorem tb_X10_append_3 (X : gX p s m args meth c D cy B (gSt Z B H0) RX10 cX10_append wsX10_append 3) (hr : meth.sig.returnType = none) {Q : State → Prop} : ∀ (M : gMem) (x0 : Nat) (x1 : Int32) (x2 : Int32) (z : (gMem × Int32) ⊕ (Unit × gMem)), bb_X10_append_3 M x0 x1 x2 = some z → (Sum.elim (fun (q : gMem × Int32) => gGo p l e rX10_append s m args below meth c D cy B H0 3 0 0 Q 3 [(0, vR (some x0)), (1, vI x1), (2, vI q.2)] [] q.1) (fun (r : Unit × gMem) => Q = gMQ below D cy B H0 args s 0 0 none r.2)) z → gGo p l e rX10_append s m args below meth c D cy B H0 3 0 0 Q 3 [(0, vR (some x0)), (1, vI x1), (2, vI x2)] [] M := by
  intro M x0 x1 x2 z hf hK
  unfold bb_X10_append_3 at hf
  refine g_iload_n X dX10_append_3 rfl rfl ?_
  refine g_if_lt (tgt := 48) X dX10_append_4 (by decide) (fun hc => ?_) (fun hc => ?_)
  · have hf := ife_t hc hf
    obtain ⟨w1, hw1, hz1⟩ := oI_e hf
    subst hz1
    have hf := hw1
    cases hf
    refine g_eqQ hK ?_
    exact g_vret X hr dX10_append_48
  · have hf := ife_f hc hf
    refine g_aload_n X dX10_append_7 rfl rfl ?_
    obtain ⟨hT2, hf⟩ := ck_e hf
    refine g_get (ci := 8) (v := vI (mI M x0 0)) 0 X cdX10 i_X10_append_X10 (by decide) k_X10_append_f33 rfl dX10_append_8 rfl hT2 rfl ?_
    refine g_aload_n X dX10_append_11 rfl rfl ?_
    refine g_get (ci := 8) (v := vR (mR M x0 1)) 1 X cdX10 i_X10_append_X10 (by decide) k_X10_append_f9 rfl dX10_append_12 rfl hT2 rfl ?_
    obtain ⟨a3, ha3, hf⟩ := dr_e hf
    obtain ⟨hT4, hf⟩ := ck_e hf
    refine g_alen (t0 := 2) X dX10_append_15 ha3 hT4 (by decide) rfl ?_
    refine g_icmp_ge (tgt := 42) X dX10_append_16 (by decide) (fun hc => ?_) (fun hc => ?_)
    · have hf := ife_t hc hf
      refine g_sub (lvsub_of _ _ [0, 1, 2] rfl) ?_
      exact t_X10_append_42 X hr _ _ _ _ _ hf hK
    · have hf := ife_f hc hf
      refine g_aload_n X dX10_append_19 rfl rfl ?_
      refine g_get (ci := 8) (v := vR (mR M x0 1)) 1 X cdX10 i_X10_append_X10 (by decide) k_X10_append_f9 rfl dX10_append_20 rfl hT2 rfl ?_
      refine g_aload_n X dX10_append_23 rfl rfl ?_
      refine g_get (ci := 8) (v := vI (mI M x0 0)) 0 X cdX10 i_X10_append_X10 (by decide) k_X10_append_f33 rfl dX10_append_24 rfl hT2 rfl ?_
      refine g_iload_n X dX10_append_27 rfl rfl ?_
      refine g_iload_n X dX10_append_28 rfl rfl ?_
      refine g_iushr X dX10_append_29 ?_
      refine g_i2b X dX10_append_30 ?_
      obtain ⟨hg5, hf⟩ := ck_e hf
      refine g_bast X dX10_append_31 ha3 hT4 hg5 ?_
      obtain ⟨M6, hM6, hf⟩ := lw_e hf
      rw [← hM6]
      have hT7 : mT M6 x0 = 9 := by rw [hM6]; exact hT2
      have hT8 : mT M6 a3 = 22 := by rw [hM6]; exact hT4
      refine g_aload_n X dX10_append_32 rfl rfl ?_
      refine g_dup X dX10_append_33 rfl ?_
      refine g_get (ci := 8) (v := vI (mI M6 x0 0)) 0 X cdX10 i_X10_append_X10 (by decide) k_X10_append_f33 rfl dX10_append_34 rfl hT7 rfl ?_
      refine g_iconst (v := (1 : Int32)) X dX10_append_37 (by decide) ?_
      refine g_iadd X dX10_append_38 ?_
      refine g_putI (ci := 8) 0 X cdX10 i_X10_append_X10 (by decide) k_X10_append_f33 rfl dX10_append_39 rfl hT7 (Or.inl rfl) rfl rfl rfl ?_
      obtain ⟨M9, hM9, hf⟩ := lw_e hf
      rw [← hM9]
      have hT10 : mT M9 x0 = 9 := by rw [hM9]; exact hT7
      have hT11 : mT M9 a3 = 22 := by rw [hM9]; exact hT8
      refine g_sub (lvsub_of _ _ [0, 1, 2] rfl) ?_
      exact t_X10_append_42 X hr _ _ _ _ _ hf hK
set_option maxHeartbeats 4000000 in
set_option maxRecDepth 100000 in
theorem tl_X10_append_3 (X : gX p s m args meth c D cy B (gSt Z B H0) RX10 cX10_append wsX10_append 3) (hr : meth.sig.returnType = none) {Q : State → Prop} : ∀ (M : gMem) (x0 : Nat) (x1 : Int32) (x2 : Int32) (z : Unit × gMem), lp_X10_append_3 M x0 x1 x2 = some z → (fun (r : Unit × gMem) => Q = gMQ below D cy B H0 args s 0 0 none r.2) z → gGo p l e rX10_append s m args below meth c D cy B H0 3 0 0 Q 3 [(0, vR (some x0)), (1, vI x1), (2, vI x2)] [] M := by
  intro M x0 x1 x2 z hf hK
  refine lp_ind (P := (fun (q : gMem × Int32) (z : Unit × gMem) => (fun (r : Unit × gMem) => Q = gMQ below D cy B H0 args s 0 0 none r.2) z → gGo p l e rX10_append s m args below meth c D cy B H0 3 0 0 Q 3 [(0, vR (some x0)), (1, vI x1), (2, vI q.2)] [] q.1)) (fun q z hq => ?_) _ _ hf hK
  intro hK
  obtain ⟨w, hw, hm⟩ := hq
  refine tb_X10_append_3 X hr _ _ _ _ w hw ?_
  cases w with
  | inl a => exact hm hK
  | inr b => cases hm; exact hK
set_option maxHeartbeats 4000000 in
set_option maxRecDepth 100000 in
theorem t_X10_append_0 (X : gX p s m args meth c D cy B (gSt Z B H0) RX10 cX10_append wsX10_append 3) (hr : meth.sig.returnType = none) {Q : State → Prop} : ∀ (M : gMem) (x0 : Nat) (x1 : Int32) (z : Unit × gMem), b_X10_append_0 M x0 x1 = some z → (fun (r : Unit × gMem) => Q = gMQ below D cy B H0 args s 0 0 none r.2) z → gGo p l e rX10_append s m args below meth c D cy B H0 3 0 0 Q 0 [(0, vR (some x0)), (1, vI x1)] [] M := by
  intro M x0 x1 z hf hK
  unfold b_X10_append_0 at hf
  refine g_bipush (v := (24 : Int32)) X dX10_append_0 (by decide) ?_
  refine g_istore_n (lv' := [(2, vI (24 : Int32)), (0, vR (some x0)), (1, vI x1)]) X dX10_append_2 rfl (by decide) rfl ?_
  refine g_sub (lvsub_of _ _ [1, 2, 0] rfl) ?_
  exact tl_X10_append_3 X hr _ _ _ _ _ hf hK
set_option maxHeartbeats 4000000 in
set_option maxRecDepth 100000 in
theorem m_X10_append (l : Launch) {D : va_G} {cy : Nat → ClassId} {B : Nat} {H0 : Heap} {Z : Nat → Nat} {M M1 : gMem} {x0 : Nat} {x1 : Int32} {r : Unit} (hf : f_X10_append M x0 x1 = some (r, M1)) : Met l yX10_append wsX10_append rX10_append (va_Pc (Value.ref x0 :: List.map gv [vI x1]) (gPre D cy B H0 (gSt Z B H0) M)) (gQ D cy B H0 none M1) 0 0 (gA B) := by
  refine Met.ofW (cc := cX10_append) (maxL := 3) (ret := none) (by decide) rfl ?_
  intro p e s m args below meth c s₁ Bd hml hv
  obtain ⟨rfl, hW, hKK, hFs⟩ := hv
  have X : gX p s m _ meth c D cy B (gSt Z B H0) RX10 cX10_append wsX10_append 3 := ⟨Bd.exec, Bd.bytes, atoms_spec (ws := wsX10_append) Bd.pre, findClass_of_methodNamed Bd.named, hml, hKK, by rw [hW.1]; exact hW.2.1, Bd.notSynchronized, hFs⟩
  have hr := Bd.returns
  have hl := lv_entry ([.ref x0, .int x1]) (n := 3) (Nat.le_of_ble_eq_true rfl)
  show W p l e rX10_append s m _ below meth c s.heap [] 0 0 _ (entryFrame m ([.ref x0, .int x1] : List Value).toArray 3)
  rw [lg_entry_eq]
  generalize (lg_sl ([.ref x0, .int x1]) ++ List.replicate (3 - (lg_sl ([.ref x0, .int x1])).length) Slot.unset).toArray = ls at hl ⊢
  have hl : lv_has ls 3 (List.map gq [(0, vR (some x0)), (1, vI x1)]) := hl
  exact t_X10_append_0 X hr _ _ _ _ hf rfl s.heap [] ls hW va_S.rf (lv_has_sub hl (lvsub_of _ _ [0, 1] rfl))
/-! ## TideLots$Tape.at(I)I -/
theorem dX10_at_0 : decode cX10_at 0 = .ok (.iload_n 1, 1) := by decide +kernel
theorem dX10_at_1 : decode cX10_at 1 = .ok (.ifCond .lt 20, 3) := by decide +kernel
theorem dX10_at_4 : decode cX10_at 4 = .ok (.iload_n 1, 1) := by decide +kernel
theorem dX10_at_5 : decode cX10_at 5 = .ok (.aload_n 0, 1) := by decide +kernel
theorem dX10_at_6 : decode cX10_at 6 = .ok (.getfield 33, 3) := by decide +kernel
theorem dX10_at_9 : decode cX10_at 9 = .ok (.if_icmp .ge 12, 3) := by decide +kernel
theorem dX10_at_12 : decode cX10_at 12 = .ok (.aload_n 0, 1) := by decide +kernel
theorem dX10_at_13 : decode cX10_at 13 = .ok (.getfield 9, 3) := by decide +kernel
theorem dX10_at_16 : decode cX10_at 16 = .ok (.iload_n 1, 1) := by decide +kernel
theorem dX10_at_17 : decode cX10_at 17 = .ok (.baload, 1) := by decide +kernel
theorem dX10_at_18 : decode cX10_at 18 = .ok (.goto 4, 3) := by decide +kernel
theorem dX10_at_21 : decode cX10_at 21 = .ok (.iconst 0, 1) := by decide +kernel
theorem dX10_at_22 : decode cX10_at 22 = .ok (.ireturn, 1) := by decide +kernel
theorem k_X10_at_f33 : Cond.fieldLink RX10 33 "TideLots$Tape" "length" "I" ∈ wsX10_at := by decide +kernel
theorem i_X10_at_X10 : ∀ w ∈ u_ws RX10 TX10 6, w ∈ wsX10_at := by decide +kernel
theorem k_X10_at_f9 : Cond.fieldLink RX10 9 "TideLots$Tape" "bytes" "[B" ∈ wsX10_at := by decide +kernel
abbrev rX10_at : Room := { frames := 0, cells := 0, slots := 0, locals := 0 }
noncomputable def b_X10_at_22 (M : gMem) (s0 : Int32) : Option (Int32 × gMem) :=
  some (s0, M)
noncomputable def b_X10_at_21 (M : gMem)  : Option (Int32 × gMem) :=
  b_X10_at_22 M ((0 : Int32))
noncomputable def b_X10_at_0 (M : gMem) (x0 : Nat) (x1 : Int32) : Option (Int32 × gMem) :=
  (if x1 < 0 then b_X10_at_21 M  else ck (mT M x0 = 9) <| (if (mI M x0 0) ≤ x1 then b_X10_at_21 M  else dr ((mR M x0 1)) fun a2 => ck (mT M a2 = 22) <| ck (inb x1 (mL M a2)) <| b_X10_at_22 M ((mI M a2 x1.toNatClampNeg))))
noncomputable def f_X10_at (M : gMem) (x0 : Nat) (x1 : Int32) : Option (Int32 × gMem) :=
  b_X10_at_0 M x0 x1
set_option maxHeartbeats 4000000 in
set_option maxRecDepth 100000 in
theorem t_X10_at_22 (X : gX p s m args meth c D cy B (gSt Z B H0) RX10 cX10_at wsX10_at 2) (hr : meth.sig.returnType = (some .int)) {Q : State → Prop} : ∀ (M : gMem) (s0 : Int32) (z : Int32 × gMem), b_X10_at_22 M s0 = some z → (fun (r : Int32 × gMem) => Q = gMQ below D cy B H0 args s 0 0 (some (vI r.1)) r.2) z → gGo p l e rX10_at s m args below meth c D cy B H0 2 0 0 Q 22 [] [vI s0] M := by
  intro M s0 z hf hK
  unfold b_X10_at_22 at hf
  cases hf
  refine g_eqQ hK ?_
  exact g_iret X hr dX10_at_22
set_option maxHeartbeats 4000000 in
set_option maxRecDepth 100000 in
theorem t_X10_at_21 (X : gX p s m args meth c D cy B (gSt Z B H0) RX10 cX10_at wsX10_at 2) (hr : meth.sig.returnType = (some .int)) {Q : State → Prop} : ∀ (M : gMem)  (z : Int32 × gMem), b_X10_at_21 M  = some z → (fun (r : Int32 × gMem) => Q = gMQ below D cy B H0 args s 0 0 (some (vI r.1)) r.2) z → gGo p l e rX10_at s m args below meth c D cy B H0 2 0 0 Q 21 [] [] M := by
  intro M  z hf hK
  unfold b_X10_at_21 at hf
  refine g_iconst (v := (0 : Int32)) X dX10_at_21 (by decide) ?_
  refine g_sub (lvsub_of _ _ [] rfl) ?_
  exact t_X10_at_22 X hr _ _ _ hf hK
set_option maxHeartbeats 4000000 in
set_option maxRecDepth 100000 in
theorem t_X10_at_0 (X : gX p s m args meth c D cy B (gSt Z B H0) RX10 cX10_at wsX10_at 2) (hr : meth.sig.returnType = (some .int)) {Q : State → Prop} : ∀ (M : gMem) (x0 : Nat) (x1 : Int32) (z : Int32 × gMem), b_X10_at_0 M x0 x1 = some z → (fun (r : Int32 × gMem) => Q = gMQ below D cy B H0 args s 0 0 (some (vI r.1)) r.2) z → gGo p l e rX10_at s m args below meth c D cy B H0 2 0 0 Q 0 [(0, vR (some x0)), (1, vI x1)] [] M := by
  intro M x0 x1 z hf hK
  unfold b_X10_at_0 at hf
  refine g_iload_n X dX10_at_0 rfl rfl ?_
  refine g_if_lt (tgt := 21) X dX10_at_1 (by decide) (fun hc => ?_) (fun hc => ?_)
  · have hf := ife_t hc hf
    refine g_sub (lvsub_of _ _ [] rfl) ?_
    exact t_X10_at_21 X hr _  _ hf hK
  · have hf := ife_f hc hf
    refine g_iload_n X dX10_at_4 rfl rfl ?_
    refine g_aload_n X dX10_at_5 rfl rfl ?_
    obtain ⟨hT1, hf⟩ := ck_e hf
    refine g_get (ci := 8) (v := vI (mI M x0 0)) 0 X cdX10 i_X10_at_X10 (by decide) k_X10_at_f33 rfl dX10_at_6 rfl hT1 rfl ?_
    refine g_icmp_ge (tgt := 21) X dX10_at_9 (by decide) (fun hc => ?_) (fun hc => ?_)
    · have hf := ife_t hc hf
      refine g_sub (lvsub_of _ _ [] rfl) ?_
      exact t_X10_at_21 X hr _  _ hf hK
    · have hf := ife_f hc hf
      refine g_aload_n X dX10_at_12 rfl rfl ?_
      refine g_get (ci := 8) (v := vR (mR M x0 1)) 1 X cdX10 i_X10_at_X10 (by decide) k_X10_at_f9 rfl dX10_at_13 rfl hT1 rfl ?_
      refine g_iload_n X dX10_at_16 rfl rfl ?_
      obtain ⟨a2, ha2, hf⟩ := dr_e hf
      obtain ⟨hT3, hf⟩ := ck_e hf
      obtain ⟨hg4, hf⟩ := ck_e hf
      refine g_bald X dX10_at_17 ha2 hT3 hg4 ?_
      refine g_goto (tgt := 22) X dX10_at_18 (by decide) ?_
      refine g_sub (lvsub_of _ _ [] rfl) ?_
      exact t_X10_at_22 X hr _ _ _ hf hK
set_option maxHeartbeats 4000000 in
set_option maxRecDepth 100000 in
theorem m_X10_at (l : Launch) {D : va_G} {cy : Nat → ClassId} {B : Nat} {H0 : Heap} {Z : Nat → Nat} {M M1 : gMem} {x0 : Nat} {x1 : Int32} {r : Int32} (hf : f_X10_at M x0 x1 = some (r, M1)) : Met l yX10_at wsX10_at rX10_at (va_Pc (Value.ref x0 :: List.map gv [vI x1]) (gPre D cy B H0 (gSt Z B H0) M)) (gQ D cy B H0 (some (vI r)) M1) 0 0 (gA B) := by
  refine Met.ofW (cc := cX10_at) (maxL := 2) (ret := (some .int)) (by decide) rfl ?_
  intro p e s m args below meth c s₁ Bd hml hv
  obtain ⟨rfl, hW, hKK, hFs⟩ := hv
  have X : gX p s m _ meth c D cy B (gSt Z B H0) RX10 cX10_at wsX10_at 2 := ⟨Bd.exec, Bd.bytes, atoms_spec (ws := wsX10_at) Bd.pre, findClass_of_methodNamed Bd.named, hml, hKK, by rw [hW.1]; exact hW.2.1, Bd.notSynchronized, hFs⟩
  have hr := Bd.returns
  have hl := lv_entry ([.ref x0, .int x1]) (n := 2) (Nat.le_of_ble_eq_true rfl)
  show W p l e rX10_at s m _ below meth c s.heap [] 0 0 _ (entryFrame m ([.ref x0, .int x1] : List Value).toArray 2)
  rw [lg_entry_eq]
  generalize (lg_sl ([.ref x0, .int x1]) ++ List.replicate (2 - (lg_sl ([.ref x0, .int x1])).length) Slot.unset).toArray = ls at hl ⊢
  have hl : lv_has ls 2 (List.map gq [(0, vR (some x0)), (1, vI x1)]) := hl
  exact t_X10_at_0 X hr _ _ _ _ hf rfl s.heap [] ls hW va_S.rf (lv_has_sub hl (lvsub_of _ _ [0, 1] rfl))
/-! ## TideLots$Tape.isLetter(I)Z -/
theorem dX10_isLetter_0 : decode cX10_isLetter 0 = .ok (.aload_n 0, 1) := by decide +kernel
theorem dX10_isLetter_1 : decode cX10_isLetter 1 = .ok (.iload_n 1, 1) := by decide +kernel
theorem dX10_isLetter_2 : decode cX10_isLetter 2 = .ok (.invokevirtual 50, 3) := by decide +kernel
theorem dX10_isLetter_5 : decode cX10_isLetter 5 = .ok (.bipush 97, 2) := by decide +kernel
theorem dX10_isLetter_7 : decode cX10_isLetter 7 = .ok (.if_icmp .lt 17, 3) := by decide +kernel
theorem dX10_isLetter_10 : decode cX10_isLetter 10 = .ok (.aload_n 0, 1) := by decide +kernel
theorem dX10_isLetter_11 : decode cX10_isLetter 11 = .ok (.iload_n 1, 1) := by decide +kernel
theorem dX10_isLetter_12 : decode cX10_isLetter 12 = .ok (.invokevirtual 50, 3) := by decide +kernel
theorem dX10_isLetter_15 : decode cX10_isLetter 15 = .ok (.bipush 122, 2) := by decide +kernel
theorem dX10_isLetter_17 : decode cX10_isLetter 17 = .ok (.if_icmp .gt 7, 3) := by decide +kernel
theorem dX10_isLetter_20 : decode cX10_isLetter 20 = .ok (.iconst 1, 1) := by decide +kernel
theorem dX10_isLetter_21 : decode cX10_isLetter 21 = .ok (.goto 4, 3) := by decide +kernel
theorem dX10_isLetter_24 : decode cX10_isLetter 24 = .ok (.iconst 0, 1) := by decide +kernel
theorem dX10_isLetter_25 : decode cX10_isLetter 25 = .ok (.ireturn, 1) := by decide +kernel
set_option maxRecDepth 20000 in
theorem ggX10_isLetter_X10_at : GoodIn wsX10_isLetter wsX10_at := goodIn_r _ [5, 6, 7, 8, 9, 10, 11, 12, 13] (by decide +kernel) (by decide +kernel)
set_option maxRecDepth 20000 in
theorem gX10_isLetter_X10_at : GoodIn wsX10_isLetter (wsV RX10 50 RX10 yX10_at wsX10_at) := goodIn_app (goodIn_of _ (by decide +kernel)) ggX10_isLetter_X10_at
abbrev rX10_isLetter : Room := { frames := 1, cells := 0, slots := 0, locals := 21 }
noncomputable def b_X10_isLetter_25 (M : gMem) (s0 : Int32) : Option (Int32 × gMem) :=
  ck (s0 = 0 ∨ s0 = 1) <| some (s0, M)
noncomputable def b_X10_isLetter_24 (M : gMem)  : Option (Int32 × gMem) :=
  b_X10_isLetter_25 M ((0 : Int32))
noncomputable def b_X10_isLetter_0 (M : gMem) (x0 : Nat) (x1 : Int32) : Option (Int32 × gMem) :=
  ck (mT M x0 = 9) <| bd (f_X10_at M x0 x1) fun r2 M2 => (if r2 < (97 : Int32) then b_X10_isLetter_24 M2  else ck (mT M2 x0 = 9) <| bd (f_X10_at M2 x0 x1) fun r4 M4 => (if (122 : Int32) < r4 then b_X10_isLetter_24 M4  else b_X10_isLetter_25 M4 ((1 : Int32))))
noncomputable def f_X10_isLetter (M : gMem) (x0 : Nat) (x1 : Int32) : Option (Int32 × gMem) :=
  b_X10_isLetter_0 M x0 x1
set_option maxHeartbeats 4000000 in
set_option maxRecDepth 100000 in
theorem t_X10_isLetter_25 (X : gX p s m args meth c D cy B (gSt Z B H0) RX10 cX10_isLetter wsX10_isLetter 2) (hr : meth.sig.returnType = (some .boolean)) {Q : State → Prop} : ∀ (M : gMem) (s0 : Int32) (z : Int32 × gMem), b_X10_isLetter_25 M s0 = some z → (fun (r : Int32 × gMem) => Q = gMQ below D cy B H0 args s 0 0 (some (vI r.1)) r.2) z → gGo p l e rX10_isLetter s m args below meth c D cy B H0 2 0 0 Q 25 [] [vI s0] M := by
  intro M s0 z hf hK
  unfold b_X10_isLetter_25 at hf
  obtain ⟨hg1, hf⟩ := ck_e hf
  cases hf
  refine g_eqQ hK ?_
  exact g_zret X hr (gnb hg1) dX10_isLetter_25
set_option maxHeartbeats 4000000 in
set_option maxRecDepth 100000 in
theorem t_X10_isLetter_24 (X : gX p s m args meth c D cy B (gSt Z B H0) RX10 cX10_isLetter wsX10_isLetter 2) (hr : meth.sig.returnType = (some .boolean)) {Q : State → Prop} : ∀ (M : gMem)  (z : Int32 × gMem), b_X10_isLetter_24 M  = some z → (fun (r : Int32 × gMem) => Q = gMQ below D cy B H0 args s 0 0 (some (vI r.1)) r.2) z → gGo p l e rX10_isLetter s m args below meth c D cy B H0 2 0 0 Q 24 [] [] M := by
  intro M  z hf hK
  unfold b_X10_isLetter_24 at hf
  refine g_iconst (v := (0 : Int32)) X dX10_isLetter_24 (by decide) ?_
  refine g_sub (lvsub_of _ _ [] rfl) ?_
  exact t_X10_isLetter_25 X hr _ _ _ hf hK
set_option maxHeartbeats 4000000 in
set_option maxRecDepth 100000 in
theorem t_X10_isLetter_0 (X : gX p s m args meth c D cy B (gSt Z B H0) RX10 cX10_isLetter wsX10_isLetter 2) (hr : meth.sig.returnType = (some .boolean)) {Q : State → Prop} : ∀ (M : gMem) (x0 : Nat) (x1 : Int32) (z : Int32 × gMem), b_X10_isLetter_0 M x0 x1 = some z → (fun (r : Int32 × gMem) => Q = gMQ below D cy B H0 args s 0 0 (some (vI r.1)) r.2) z → gGo p l e rX10_isLetter s m args below meth c D cy B H0 2 0 0 Q 0 [(0, vR (some x0)), (1, vI x1)] [] M := by
  intro M x0 x1 z hf hK
  unfold b_X10_isLetter_0 at hf
  refine g_aload_n X dX10_isLetter_0 rfl rfl ?_
  refine g_iload_n X dX10_isLetter_1 rfl rfl ?_
  obtain ⟨hT3, hf⟩ := ck_e hf
  obtain ⟨r2, M2, hq2, hf⟩ := bd_e hf
  refine g_callV (ci := 8) (b := x0) (As := [vI x1]) (st := []) (v := some (vI r2)) (M1 := M2) X (m_X10_at l hq2) (cwV 1 X.2.2.1 gX10_isLetter_X10_at rfl rfl rfl (by decide +kernel) ⟨Nat.le_of_ble_eq_true rfl, Nat.le_of_ble_eq_true rfl⟩) rfl rfl rfl hT3 (by decide) rfl (Nat.le_of_ble_eq_true rfl) dX10_isLetter_2 ⟨by decide, by decide⟩ ?_
  refine g_bipush (v := (97 : Int32)) X dX10_isLetter_5 (by decide) ?_
  refine g_icmp_lt (tgt := 24) X dX10_isLetter_7 (by decide) (fun hc => ?_) (fun hc => ?_)
  · have hf := ife_t hc hf
    refine g_sub (lvsub_of _ _ [] rfl) ?_
    exact t_X10_isLetter_24 X hr _  _ hf hK
  · have hf := ife_f hc hf
    refine g_aload_n X dX10_isLetter_10 rfl rfl ?_
    refine g_iload_n X dX10_isLetter_11 rfl rfl ?_
    obtain ⟨hT5, hf⟩ := ck_e hf
    obtain ⟨r4, M4, hq4, hf⟩ := bd_e hf
    refine g_callV (ci := 8) (b := x0) (As := [vI x1]) (st := []) (v := some (vI r4)) (M1 := M4) X (m_X10_at l hq4) (cwV 1 X.2.2.1 gX10_isLetter_X10_at rfl rfl rfl (by decide +kernel) ⟨Nat.le_of_ble_eq_true rfl, Nat.le_of_ble_eq_true rfl⟩) rfl rfl rfl hT5 (by decide) rfl (Nat.le_of_ble_eq_true rfl) dX10_isLetter_12 ⟨by decide, by decide⟩ ?_
    refine g_bipush (v := (122 : Int32)) X dX10_isLetter_15 (by decide) ?_
    refine g_icmp_gt (tgt := 24) X dX10_isLetter_17 (by decide) (fun hc => ?_) (fun hc => ?_)
    · have hf := ife_t hc hf
      refine g_sub (lvsub_of _ _ [] rfl) ?_
      exact t_X10_isLetter_24 X hr _  _ hf hK
    · have hf := ife_f hc hf
      refine g_iconst (v := (1 : Int32)) X dX10_isLetter_20 (by decide) ?_
      refine g_goto (tgt := 25) X dX10_isLetter_21 (by decide) ?_
      refine g_sub (lvsub_of _ _ [] rfl) ?_
      exact t_X10_isLetter_25 X hr _ _ _ hf hK
set_option maxHeartbeats 4000000 in
set_option maxRecDepth 100000 in
theorem m_X10_isLetter (l : Launch) {D : va_G} {cy : Nat → ClassId} {B : Nat} {H0 : Heap} {Z : Nat → Nat} {M M1 : gMem} {x0 : Nat} {x1 : Int32} {r : Int32} (hf : f_X10_isLetter M x0 x1 = some (r, M1)) : Met l yX10_isLetter wsX10_isLetter rX10_isLetter (va_Pc (Value.ref x0 :: List.map gv [vI x1]) (gPre D cy B H0 (gSt Z B H0) M)) (gQ D cy B H0 (some (vI r)) M1) 0 0 (gA B) := by
  refine Met.ofW (cc := cX10_isLetter) (maxL := 2) (ret := (some .boolean)) (by decide) rfl ?_
  intro p e s m args below meth c s₁ Bd hml hv
  obtain ⟨rfl, hW, hKK, hFs⟩ := hv
  have X : gX p s m _ meth c D cy B (gSt Z B H0) RX10 cX10_isLetter wsX10_isLetter 2 := ⟨Bd.exec, Bd.bytes, atoms_spec (ws := wsX10_isLetter) Bd.pre, findClass_of_methodNamed Bd.named, hml, hKK, by rw [hW.1]; exact hW.2.1, Bd.notSynchronized, hFs⟩
  have hr := Bd.returns
  have hl := lv_entry ([.ref x0, .int x1]) (n := 2) (Nat.le_of_ble_eq_true rfl)
  show W p l e rX10_isLetter s m _ below meth c s.heap [] 0 0 _ (entryFrame m ([.ref x0, .int x1] : List Value).toArray 2)
  rw [lg_entry_eq]
  generalize (lg_sl ([.ref x0, .int x1]) ++ List.replicate (2 - (lg_sl ([.ref x0, .int x1])).length) Slot.unset).toArray = ls at hl ⊢
  have hl : lv_has ls 2 (List.map gq [(0, vR (some x0)), (1, vI x1)]) := hl
  exact t_X10_isLetter_0 X hr _ _ _ _ hf rfl s.heap [] ls hW va_S.rf (lv_has_sub hl (lvsub_of _ _ [0, 1] rfl))
/-! ## TideLots$Tape.isDigit(I)Z -/
theorem dX10_isDigit_0 : decode cX10_isDigit 0 = .ok (.aload_n 0, 1) := by decide +kernel
theorem dX10_isDigit_1 : decode cX10_isDigit 1 = .ok (.iload_n 1, 1) := by decide +kernel
theorem dX10_isDigit_2 : decode cX10_isDigit 2 = .ok (.invokevirtual 50, 3) := by decide +kernel
theorem dX10_isDigit_5 : decode cX10_isDigit 5 = .ok (.bipush 48, 2) := by decide +kernel
theorem dX10_isDigit_7 : decode cX10_isDigit 7 = .ok (.if_icmp .lt 17, 3) := by decide +kernel
theorem dX10_isDigit_10 : decode cX10_isDigit 10 = .ok (.aload_n 0, 1) := by decide +kernel
theorem dX10_isDigit_11 : decode cX10_isDigit 11 = .ok (.iload_n 1, 1) := by decide +kernel
theorem dX10_isDigit_12 : decode cX10_isDigit 12 = .ok (.invokevirtual 50, 3) := by decide +kernel
theorem dX10_isDigit_15 : decode cX10_isDigit 15 = .ok (.bipush 57, 2) := by decide +kernel
theorem dX10_isDigit_17 : decode cX10_isDigit 17 = .ok (.if_icmp .gt 7, 3) := by decide +kernel
theorem dX10_isDigit_20 : decode cX10_isDigit 20 = .ok (.iconst 1, 1) := by decide +kernel
theorem dX10_isDigit_21 : decode cX10_isDigit 21 = .ok (.goto 4, 3) := by decide +kernel
theorem dX10_isDigit_24 : decode cX10_isDigit 24 = .ok (.iconst 0, 1) := by decide +kernel
theorem dX10_isDigit_25 : decode cX10_isDigit 25 = .ok (.ireturn, 1) := by decide +kernel
set_option maxRecDepth 20000 in
theorem ggX10_isDigit_X10_at : GoodIn wsX10_isDigit wsX10_at := goodIn_r _ [5, 6, 7, 8, 9, 10, 11, 12, 13] (by decide +kernel) (by decide +kernel)
set_option maxRecDepth 20000 in
theorem gX10_isDigit_X10_at : GoodIn wsX10_isDigit (wsV RX10 50 RX10 yX10_at wsX10_at) := goodIn_app (goodIn_of _ (by decide +kernel)) ggX10_isDigit_X10_at
abbrev rX10_isDigit : Room := { frames := 1, cells := 0, slots := 0, locals := 21 }
noncomputable def b_X10_isDigit_25 (M : gMem) (s0 : Int32) : Option (Int32 × gMem) :=
  ck (s0 = 0 ∨ s0 = 1) <| some (s0, M)
noncomputable def b_X10_isDigit_24 (M : gMem)  : Option (Int32 × gMem) :=
  b_X10_isDigit_25 M ((0 : Int32))
noncomputable def b_X10_isDigit_0 (M : gMem) (x0 : Nat) (x1 : Int32) : Option (Int32 × gMem) :=
  ck (mT M x0 = 9) <| bd (f_X10_at M x0 x1) fun r2 M2 => (if r2 < (48 : Int32) then b_X10_isDigit_24 M2  else ck (mT M2 x0 = 9) <| bd (f_X10_at M2 x0 x1) fun r4 M4 => (if (57 : Int32) < r4 then b_X10_isDigit_24 M4  else b_X10_isDigit_25 M4 ((1 : Int32))))
noncomputable def f_X10_isDigit (M : gMem) (x0 : Nat) (x1 : Int32) : Option (Int32 × gMem) :=
  b_X10_isDigit_0 M x0 x1
set_option maxHeartbeats 4000000 in
set_option maxRecDepth 100000 in
theorem t_X10_isDigit_25 (X : gX p s m args meth c D cy B (gSt Z B H0) RX10 cX10_isDigit wsX10_isDigit 2) (hr : meth.sig.returnType = (some .boolean)) {Q : State → Prop} : ∀ (M : gMem) (s0 : Int32) (z : Int32 × gMem), b_X10_isDigit_25 M s0 = some z → (fun (r : Int32 × gMem) => Q = gMQ below D cy B H0 args s 0 0 (some (vI r.1)) r.2) z → gGo p l e rX10_isDigit s m args below meth c D cy B H0 2 0 0 Q 25 [] [vI s0] M := by
  intro M s0 z hf hK
  unfold b_X10_isDigit_25 at hf
  obtain ⟨hg1, hf⟩ := ck_e hf
  cases hf
  refine g_eqQ hK ?_
  exact g_zret X hr (gnb hg1) dX10_isDigit_25
set_option maxHeartbeats 4000000 in
set_option maxRecDepth 100000 in
theorem t_X10_isDigit_24 (X : gX p s m args meth c D cy B (gSt Z B H0) RX10 cX10_isDigit wsX10_isDigit 2) (hr : meth.sig.returnType = (some .boolean)) {Q : State → Prop} : ∀ (M : gMem)  (z : Int32 × gMem), b_X10_isDigit_24 M  = some z → (fun (r : Int32 × gMem) => Q = gMQ below D cy B H0 args s 0 0 (some (vI r.1)) r.2) z → gGo p l e rX10_isDigit s m args below meth c D cy B H0 2 0 0 Q 24 [] [] M := by
  intro M  z hf hK
  unfold b_X10_isDigit_24 at hf
  refine g_iconst (v := (0 : Int32)) X dX10_isDigit_24 (by decide) ?_
  refine g_sub (lvsub_of _ _ [] rfl) ?_
  exact t_X10_isDigit_25 X hr _ _ _ hf hK
set_option maxHeartbeats 4000000 in
set_option maxRecDepth 100000 in
theorem t_X10_isDigit_0 (X : gX p s m args meth c D cy B (gSt Z B H0) RX10 cX10_isDigit wsX10_isDigit 2) (hr : meth.sig.returnType = (some .boolean)) {Q : State → Prop} : ∀ (M : gMem) (x0 : Nat) (x1 : Int32) (z : Int32 × gMem), b_X10_isDigit_0 M x0 x1 = some z → (fun (r : Int32 × gMem) => Q = gMQ below D cy B H0 args s 0 0 (some (vI r.1)) r.2) z → gGo p l e rX10_isDigit s m args below meth c D cy B H0 2 0 0 Q 0 [(0, vR (some x0)), (1, vI x1)] [] M := by
  intro M x0 x1 z hf hK
  unfold b_X10_isDigit_0 at hf
  refine g_aload_n X dX10_isDigit_0 rfl rfl ?_
  refine g_iload_n X dX10_isDigit_1 rfl rfl ?_
  obtain ⟨hT3, hf⟩ := ck_e hf
  obtain ⟨r2, M2, hq2, hf⟩ := bd_e hf
  refine g_callV (ci := 8) (b := x0) (As := [vI x1]) (st := []) (v := some (vI r2)) (M1 := M2) X (m_X10_at l hq2) (cwV 1 X.2.2.1 gX10_isDigit_X10_at rfl rfl rfl (by decide +kernel) ⟨Nat.le_of_ble_eq_true rfl, Nat.le_of_ble_eq_true rfl⟩) rfl rfl rfl hT3 (by decide) rfl (Nat.le_of_ble_eq_true rfl) dX10_isDigit_2 ⟨by decide, by decide⟩ ?_
  refine g_bipush (v := (48 : Int32)) X dX10_isDigit_5 (by decide) ?_
  refine g_icmp_lt (tgt := 24) X dX10_isDigit_7 (by decide) (fun hc => ?_) (fun hc => ?_)
  · have hf := ife_t hc hf
    refine g_sub (lvsub_of _ _ [] rfl) ?_
    exact t_X10_isDigit_24 X hr _  _ hf hK
  · have hf := ife_f hc hf
    refine g_aload_n X dX10_isDigit_10 rfl rfl ?_
    refine g_iload_n X dX10_isDigit_11 rfl rfl ?_
    obtain ⟨hT5, hf⟩ := ck_e hf
    obtain ⟨r4, M4, hq4, hf⟩ := bd_e hf
    refine g_callV (ci := 8) (b := x0) (As := [vI x1]) (st := []) (v := some (vI r4)) (M1 := M4) X (m_X10_at l hq4) (cwV 1 X.2.2.1 gX10_isDigit_X10_at rfl rfl rfl (by decide +kernel) ⟨Nat.le_of_ble_eq_true rfl, Nat.le_of_ble_eq_true rfl⟩) rfl rfl rfl hT5 (by decide) rfl (Nat.le_of_ble_eq_true rfl) dX10_isDigit_12 ⟨by decide, by decide⟩ ?_
    refine g_bipush (v := (57 : Int32)) X dX10_isDigit_15 (by decide) ?_
    refine g_icmp_gt (tgt := 24) X dX10_isDigit_17 (by decide) (fun hc => ?_) (fun hc => ?_)
    · have hf := ife_t hc hf
      refine g_sub (lvsub_of _ _ [] rfl) ?_
      exact t_X10_isDigit_24 X hr _  _ hf hK
    · have hf := ife_f hc hf
      refine g_iconst (v := (1 : Int32)) X dX10_isDigit_20 (by decide) ?_
      refine g_goto (tgt := 25) X dX10_isDigit_21 (by decide) ?_
      refine g_sub (lvsub_of _ _ [] rfl) ?_
      exact t_X10_isDigit_25 X hr _ _ _ hf hK
set_option maxHeartbeats 4000000 in
set_option maxRecDepth 100000 in
theorem m_X10_isDigit (l : Launch) {D : va_G} {cy : Nat → ClassId} {B : Nat} {H0 : Heap} {Z : Nat → Nat} {M M1 : gMem} {x0 : Nat} {x1 : Int32} {r : Int32} (hf : f_X10_isDigit M x0 x1 = some (r, M1)) : Met l yX10_isDigit wsX10_isDigit rX10_isDigit (va_Pc (Value.ref x0 :: List.map gv [vI x1]) (gPre D cy B H0 (gSt Z B H0) M)) (gQ D cy B H0 (some (vI r)) M1) 0 0 (gA B) := by
  refine Met.ofW (cc := cX10_isDigit) (maxL := 2) (ret := (some .boolean)) (by decide) rfl ?_
  intro p e s m args below meth c s₁ Bd hml hv
  obtain ⟨rfl, hW, hKK, hFs⟩ := hv
  have X : gX p s m _ meth c D cy B (gSt Z B H0) RX10 cX10_isDigit wsX10_isDigit 2 := ⟨Bd.exec, Bd.bytes, atoms_spec (ws := wsX10_isDigit) Bd.pre, findClass_of_methodNamed Bd.named, hml, hKK, by rw [hW.1]; exact hW.2.1, Bd.notSynchronized, hFs⟩
  have hr := Bd.returns
  have hl := lv_entry ([.ref x0, .int x1]) (n := 2) (Nat.le_of_ble_eq_true rfl)
  show W p l e rX10_isDigit s m _ below meth c s.heap [] 0 0 _ (entryFrame m ([.ref x0, .int x1] : List Value).toArray 2)
  rw [lg_entry_eq]
  generalize (lg_sl ([.ref x0, .int x1]) ++ List.replicate (2 - (lg_sl ([.ref x0, .int x1])).length) Slot.unset).toArray = ls at hl ⊢
  have hl : lv_has ls 2 (List.map gq [(0, vR (some x0)), (1, vI x1)]) := hl
  exact t_X10_isDigit_0 X hr _ _ _ _ hf rfl s.heap [] ls hW va_S.rf (lv_has_sub hl (lvsub_of _ _ [0, 1] rfl))
/-! ## TideLots$Tape.skipBlanks()V -/
theorem dX10_skipBlanks_0 : decode cX10_skipBlanks 0 = .ok (.aload_n 0, 1) := by decide +kernel
theorem dX10_skipBlanks_1 : decode cX10_skipBlanks 1 = .ok (.getfield 37, 3) := by decide +kernel
theorem dX10_skipBlanks_4 : decode cX10_skipBlanks 4 = .ok (.aload_n 0, 1) := by decide +kernel
theorem dX10_skipBlanks_5 : decode cX10_skipBlanks 5 = .ok (.getfield 33, 3) := by decide +kernel
theorem dX10_skipBlanks_8 : decode cX10_skipBlanks 8 = .ok (.if_icmp .ge 42, 3) := by decide +kernel
theorem dX10_skipBlanks_11 : decode cX10_skipBlanks 11 = .ok (.aload_n 0, 1) := by decide +kernel
theorem dX10_skipBlanks_12 : decode cX10_skipBlanks 12 = .ok (.aload_n 0, 1) := by decide +kernel
theorem dX10_skipBlanks_13 : decode cX10_skipBlanks 13 = .ok (.getfield 37, 3) := by decide +kernel
theorem dX10_skipBlanks_16 : decode cX10_skipBlanks 16 = .ok (.invokevirtual 50, 3) := by decide +kernel
theorem dX10_skipBlanks_19 : decode cX10_skipBlanks 19 = .ok (.bipush 32, 2) := by decide +kernel
theorem dX10_skipBlanks_21 : decode cX10_skipBlanks 21 = .ok (.if_icmp .eq 16, 3) := by decide +kernel
theorem dX10_skipBlanks_24 : decode cX10_skipBlanks 24 = .ok (.aload_n 0, 1) := by decide +kernel
theorem dX10_skipBlanks_25 : decode cX10_skipBlanks 25 = .ok (.aload_n 0, 1) := by decide +kernel
theorem dX10_skipBlanks_26 : decode cX10_skipBlanks 26 = .ok (.getfield 37, 3) := by decide +kernel
theorem dX10_skipBlanks_29 : decode cX10_skipBlanks 29 = .ok (.invokevirtual 50, 3) := by decide +kernel
theorem dX10_skipBlanks_32 : decode cX10_skipBlanks 32 = .ok (.bipush 10, 2) := by decide +kernel
theorem dX10_skipBlanks_34 : decode cX10_skipBlanks 34 = .ok (.if_icmp .ne 16, 3) := by decide +kernel
theorem dX10_skipBlanks_37 : decode cX10_skipBlanks 37 = .ok (.aload_n 0, 1) := by decide +kernel
theorem dX10_skipBlanks_38 : decode cX10_skipBlanks 38 = .ok (.dup, 1) := by decide +kernel
theorem dX10_skipBlanks_39 : decode cX10_skipBlanks 39 = .ok (.getfield 37, 3) := by decide +kernel
theorem dX10_skipBlanks_42 : decode cX10_skipBlanks 42 = .ok (.iconst 1, 1) := by decide +kernel
theorem dX10_skipBlanks_43 : decode cX10_skipBlanks 43 = .ok (.iadd, 1) := by decide +kernel
theorem dX10_skipBlanks_44 : decode cX10_skipBlanks 44 = .ok (.putfield 37, 3) := by decide +kernel
theorem dX10_skipBlanks_47 : decode cX10_skipBlanks 47 = .ok (.goto (-47), 3) := by decide +kernel
theorem dX10_skipBlanks_50 : decode cX10_skipBlanks 50 = .ok (.return_, 1) := by decide +kernel
set_option maxRecDepth 20000 in
theorem ggX10_skipBlanks_X10_at : GoodIn wsX10_skipBlanks wsX10_at := goodIn_r _ [7, 2, 8, 9, 10, 11, 12, 13, 14] (by decide +kernel) (by decide +kernel)
set_option maxRecDepth 20000 in
theorem gX10_skipBlanks_X10_at : GoodIn wsX10_skipBlanks (wsV RX10 50 RX10 yX10_at wsX10_at) := goodIn_app (goodIn_of _ (by decide +kernel)) ggX10_skipBlanks_X10_at
theorem k_X10_skipBlanks_f37 : Cond.fieldLink RX10 37 "TideLots$Tape" "end" "I" ∈ wsX10_skipBlanks := by decide +kernel
theorem i_X10_skipBlanks_X10 : ∀ w ∈ u_ws RX10 TX10 6, w ∈ wsX10_skipBlanks := by decide +kernel
theorem k_X10_skipBlanks_f33 : Cond.fieldLink RX10 33 "TideLots$Tape" "length" "I" ∈ wsX10_skipBlanks := by decide +kernel
abbrev rX10_skipBlanks : Room := { frames := 1, cells := 0, slots := 0, locals := 21 }
noncomputable def b_X10_skipBlanks_50 (M : gMem)  : Option (Unit × gMem) :=
  some ((), M)
noncomputable def b_X10_skipBlanks_37 (M : gMem) (x0 : Nat) : Option ((gMem) ⊕ (Unit × gMem)) :=
  ck (mT M x0 = 9) <| lw (wI M x0 5 (((mI M x0 5) + (1 : Int32)))) fun M2 => some (.inl M2)
noncomputable def bb_X10_skipBlanks_0 (M : gMem) (x0 : Nat) : Option ((gMem) ⊕ (Unit × gMem)) :=
  ck (mT M x0 = 9) <| (if (mI M x0 0) ≤ (mI M x0 5) then oI (b_X10_skipBlanks_50 M ) else bd (f_X10_at M x0 ((mI M x0 5))) fun r6 M6 => (if r6 = (32 : Int32) then b_X10_skipBlanks_37 M6 x0 else ck (mT M6 x0 = 9) <| bd (f_X10_at M6 x0 ((mI M6 x0 5))) fun r8 M8 => (if r8 = (10 : Int32) then b_X10_skipBlanks_37 M8 x0 else oI (b_X10_skipBlanks_50 M8 ))))
noncomputable def lp_X10_skipBlanks_0 (M : gMem) (x0 : Nat) : Option (Unit × gMem) :=
  lp (fun (q : gMem) => bb_X10_skipBlanks_0 q x0) M
noncomputable def f_X10_skipBlanks (M : gMem) (x0 : Nat) : Option (Unit × gMem) :=
  lp_X10_skipBlanks_0 M x0
set_option maxHeartbeats 4000000 in
set_option maxRecDepth 100000 in
theorem t_X10_skipBlanks_50 (X : gX p s m args meth c D cy B (gSt Z B H0) RX10 cX10_skipBlanks wsX10_skipBlanks 1) (hr : meth.sig.returnType = none) {Q : State → Prop} : ∀ (M : gMem)  (z : Unit × gMem), b_X10_skipBlanks_50 M  = some z → (fun (r : Unit × gMem) => Q = gMQ below D cy B H0 args s 0 0 none r.2) z → gGo p l e rX10_skipBlanks s m args below meth c D cy B H0 1 0 0 Q 50 [] [] M := by
  intro M  z hf hK
  unfold b_X10_skipBlanks_50 at hf
  cases hf
  refine g_eqQ hK ?_
  exact g_vret X hr dX10_skipBlanks_50
set_option maxHeartbeats 4000000 in
set_option maxRecDepth 100000 in
theorem t_X10_skipBlanks_37 (X : gX p s m args meth c D cy B (gSt Z B H0) RX10 cX10_skipBlanks wsX10_skipBlanks 1) (hr : meth.sig.returnType = none) {Q : State → Prop} : ∀ (M : gMem) (x0 : Nat) (z : (gMem) ⊕ (Unit × gMem)), b_X10_skipBlanks_37 M x0 = some z → (Sum.elim (fun (q : gMem) => gGo p l e rX10_skipBlanks s m args below meth c D cy B H0 1 0 0 Q 0 [(0, vR (some x0))] [] q) (fun (r : Unit × gMem) => Q = gMQ below D cy B H0 args s 0 0 none r.2)) z → gGo p l e rX10_skipBlanks s m args below meth c D cy B H0 1 0 0 Q 37 [(0, vR (some x0))] [] M := by
  intro M x0 z hf hK
  unfold b_X10_skipBlanks_37 at hf
  refine g_aload_n X dX10_skipBlanks_37 rfl rfl ?_
  refine g_dup X dX10_skipBlanks_38 rfl ?_
  obtain ⟨hT1, hf⟩ := ck_e hf
  refine g_get (ci := 8) (v := vI (mI M x0 5)) 5 X cdX10 i_X10_skipBlanks_X10 (by decide) k_X10_skipBlanks_f37 rfl dX10_skipBlanks_39 rfl hT1 rfl ?_
  refine g_iconst (v := (1 : Int32)) X dX10_skipBlanks_42 (by decide) ?_
  refine g_iadd X dX10_skipBlanks_43 ?_
  refine g_putI (ci := 8) 5 X cdX10 i_X10_skipBlanks_X10 (by decide) k_X10_skipBlanks_f37 rfl dX10_skipBlanks_44 rfl hT1 (Or.inl rfl) rfl rfl rfl ?_
  obtain ⟨M2, hM2, hf⟩ := lw_e hf
  rw [← hM2]
  have hT3 : mT M2 x0 = 9 := by rw [hM2]; exact hT1
  refine g_goto (tgt := 0) X dX10_skipBlanks_47 (by decide) ?_
  cases hf
  refine g_sub (lvsub_of _ _ [0] rfl) ?_
  exact hK
set_option maxHeartbeats 4000000 in
set_option maxRecDepth 100000 in
theorem tb_X10_skipBlanks_0 (X : gX p s m args meth c D cy B (gSt Z B H0) RX10 cX10_skipBlanks wsX10_skipBlanks 1) (hr : meth.sig.returnType = none) {Q : State → Prop} : ∀ (M : gMem) (x0 : Nat) (z : (gMem) ⊕ (Unit × gMem)), bb_X10_skipBlanks_0 M x0 = some z → (Sum.elim (fun (q : gMem) => gGo p l e rX10_skipBlanks s m args below meth c D cy B H0 1 0 0 Q 0 [(0, vR (some x0))] [] q) (fun (r : Unit × gMem) => Q = gMQ below D cy B H0 args s 0 0 none r.2)) z → gGo p l e rX10_skipBlanks s m args below meth c D cy B H0 1 0 0 Q 0 [(0, vR (some x0))] [] M := by
  intro M x0 z hf hK
  unfold bb_X10_skipBlanks_0 at hf
  refine g_aload_n X dX10_skipBlanks_0 rfl rfl ?_
  obtain ⟨hT4, hf⟩ := ck_e hf
  refine g_get (ci := 8) (v := vI (mI M x0 5)) 5 X cdX10 i_X10_skipBlanks_X10 (by decide) k_X10_skipBlanks_f37 rfl dX10_skipBlanks_1 rfl hT4 rfl ?_
  refine g_aload_n X dX10_skipBlanks_4 rfl rfl ?_
  refine g_get (ci := 8) (v := vI (mI M x0 0)) 0 X cdX10 i_X10_skipBlanks_X10 (by decide) k_X10_skipBlanks_f33 rfl dX10_skipBlanks_5 rfl hT4 rfl ?_
  refine g_icmp_ge (tgt := 50) X dX10_skipBlanks_8 (by decide) (fun hc => ?_) (fun hc => ?_)
  · have hf := ife_t hc hf
    obtain ⟨w5, hw5, hz5⟩ := oI_e hf
    subst hz5
    have hf := hw5
    refine g_sub (lvsub_of _ _ [] rfl) ?_
    exact t_X10_skipBlanks_50 X hr _  _ hf hK
  · have hf := ife_f hc hf
    refine g_aload_n X dX10_skipBlanks_11 rfl rfl ?_
    refine g_aload_n X dX10_skipBlanks_12 rfl rfl ?_
    refine g_get (ci := 8) (v := vI (mI M x0 5)) 5 X cdX10 i_X10_skipBlanks_X10 (by decide) k_X10_skipBlanks_f37 rfl dX10_skipBlanks_13 rfl hT4 rfl ?_
    obtain ⟨r6, M6, hq6, hf⟩ := bd_e hf
    refine g_callV (ci := 8) (b := x0) (As := [vI (mI M x0 5)]) (st := []) (v := some (vI r6)) (M1 := M6) X (m_X10_at l hq6) (cwV 1 X.2.2.1 gX10_skipBlanks_X10_at rfl rfl rfl (by decide +kernel) ⟨Nat.le_of_ble_eq_true rfl, Nat.le_of_ble_eq_true rfl⟩) rfl rfl rfl hT4 (by decide) rfl (Nat.le_of_ble_eq_true rfl) dX10_skipBlanks_16 ⟨by decide, by decide⟩ ?_
    refine g_bipush (v := (32 : Int32)) X dX10_skipBlanks_19 (by decide) ?_
    refine g_icmp_eq (tgt := 37) X dX10_skipBlanks_21 (by decide) (fun hc => ?_) (fun hc => ?_)
    · have hf := ife_t hc hf
      refine g_sub (lvsub_of _ _ [0] rfl) ?_
      exact t_X10_skipBlanks_37 X hr _ _ _ hf hK
    · have hf := ife_f hc hf
      refine g_aload_n X dX10_skipBlanks_24 rfl rfl ?_
      refine g_aload_n X dX10_skipBlanks_25 rfl rfl ?_
      obtain ⟨hT7, hf⟩ := ck_e hf
      refine g_get (ci := 8) (v := vI (mI M6 x0 5)) 5 X cdX10 i_X10_skipBlanks_X10 (by decide) k_X10_skipBlanks_f37 rfl dX10_skipBlanks_26 rfl hT7 rfl ?_
      obtain ⟨r8, M8, hq8, hf⟩ := bd_e hf
      refine g_callV (ci := 8) (b := x0) (As := [vI (mI M6 x0 5)]) (st := []) (v := some (vI r8)) (M1 := M8) X (m_X10_at l hq8) (cwV 1 X.2.2.1 gX10_skipBlanks_X10_at rfl rfl rfl (by decide +kernel) ⟨Nat.le_of_ble_eq_true rfl, Nat.le_of_ble_eq_true rfl⟩) rfl rfl rfl hT7 (by decide) rfl (Nat.le_of_ble_eq_true rfl) dX10_skipBlanks_29 ⟨by decide, by decide⟩ ?_
      refine g_bipush (v := (10 : Int32)) X dX10_skipBlanks_32 (by decide) ?_
      refine g_icmp_ne (tgt := 50) X dX10_skipBlanks_34 (by decide) (fun hc => ?_) (fun hc => ?_)
      · have hf := ife_f hc hf
        obtain ⟨w9, hw9, hz9⟩ := oI_e hf
        subst hz9
        have hf := hw9
        refine g_sub (lvsub_of _ _ [] rfl) ?_
        exact t_X10_skipBlanks_50 X hr _  _ hf hK
      · have hf := ife_t hc hf
        refine g_sub (lvsub_of _ _ [0] rfl) ?_
        exact t_X10_skipBlanks_37 X hr _ _ _ hf hK
set_option maxHeartbeats 4000000 in
set_option maxRecDepth 100000 in
theorem tl_X10_skipBlanks_0 (X : gX p s m args meth c D cy B (gSt Z B H0) RX10 cX10_skipBlanks wsX10_skipBlanks 1) (hr : meth.sig.returnType = none) {Q : State → Prop} : ∀ (M : gMem) (x0 : Nat) (z : Unit × gMem), lp_X10_skipBlanks_0 M x0 = some z → (fun (r : Unit × gMem) => Q = gMQ below D cy B H0 args s 0 0 none r.2) z → gGo p l e rX10_skipBlanks s m args below meth c D cy B H0 1 0 0 Q 0 [(0, vR (some x0))] [] M := by
  intro M x0 z hf hK
  refine lp_ind (P := (fun (q : gMem) (z : Unit × gMem) => (fun (r : Unit × gMem) => Q = gMQ below D cy B H0 args s 0 0 none r.2) z → gGo p l e rX10_skipBlanks s m args below meth c D cy B H0 1 0 0 Q 0 [(0, vR (some x0))] [] q)) (fun q z hq => ?_) _ _ hf hK
  intro hK
  obtain ⟨w, hw, hm⟩ := hq
  refine tb_X10_skipBlanks_0 X hr _ _ w hw ?_
  cases w with
  | inl a => exact hm hK
  | inr b => cases hm; exact hK
set_option maxHeartbeats 4000000 in
set_option maxRecDepth 100000 in
theorem m_X10_skipBlanks (l : Launch) {D : va_G} {cy : Nat → ClassId} {B : Nat} {H0 : Heap} {Z : Nat → Nat} {M M1 : gMem} {x0 : Nat} {r : Unit} (hf : f_X10_skipBlanks M x0 = some (r, M1)) : Met l yX10_skipBlanks wsX10_skipBlanks rX10_skipBlanks (va_Pc (Value.ref x0 :: List.map gv []) (gPre D cy B H0 (gSt Z B H0) M)) (gQ D cy B H0 none M1) 0 0 (gA B) := by
  refine Met.ofW (cc := cX10_skipBlanks) (maxL := 1) (ret := none) (by decide) rfl ?_
  intro p e s m args below meth c s₁ Bd hml hv
  obtain ⟨rfl, hW, hKK, hFs⟩ := hv
  have X : gX p s m _ meth c D cy B (gSt Z B H0) RX10 cX10_skipBlanks wsX10_skipBlanks 1 := ⟨Bd.exec, Bd.bytes, atoms_spec (ws := wsX10_skipBlanks) Bd.pre, findClass_of_methodNamed Bd.named, hml, hKK, by rw [hW.1]; exact hW.2.1, Bd.notSynchronized, hFs⟩
  have hr := Bd.returns
  have hl := lv_entry ([.ref x0]) (n := 1) (Nat.le_of_ble_eq_true rfl)
  show W p l e rX10_skipBlanks s m _ below meth c s.heap [] 0 0 _ (entryFrame m ([.ref x0] : List Value).toArray 1)
  rw [lg_entry_eq]
  generalize (lg_sl ([.ref x0]) ++ List.replicate (1 - (lg_sl ([.ref x0])).length) Slot.unset).toArray = ls at hl ⊢
  have hl : lv_has ls 1 (List.map gq [(0, vR (some x0))]) := hl
  exact tl_X10_skipBlanks_0 X hr _ _ _ hf rfl s.heap [] ls hW va_S.rf (lv_has_sub hl (lvsub_of _ _ [0] rfl))
/-! ## TideLots$Tape.reads(Ljava/lang/String;II)Z -/
theorem dX10_reads_0 : decode cX10_reads 0 = .ok (.aload_n 1, 1) := by decide +kernel
theorem dX10_reads_1 : decode cX10_reads 1 = .ok (.invokevirtual 96, 3) := by decide +kernel
theorem dX10_reads_4 : decode cX10_reads 4 = .ok (.iload_n 3, 1) := by decide +kernel
theorem dX10_reads_5 : decode cX10_reads 5 = .ok (.if_icmp .eq 5, 3) := by decide +kernel
theorem dX10_reads_8 : decode cX10_reads 8 = .ok (.iconst 0, 1) := by decide +kernel
theorem dX10_reads_9 : decode cX10_reads 9 = .ok (.ireturn, 1) := by decide +kernel
theorem dX10_reads_10 : decode cX10_reads 10 = .ok (.iconst 0, 1) := by decide +kernel
theorem dX10_reads_11 : decode cX10_reads 11 = .ok (.istore 4, 2) := by decide +kernel
theorem dX10_reads_13 : decode cX10_reads 13 = .ok (.iload 4, 2) := by decide +kernel
theorem dX10_reads_15 : decode cX10_reads 15 = .ok (.iload_n 3, 1) := by decide +kernel
theorem dX10_reads_16 : decode cX10_reads 16 = .ok (.if_icmp .ge 28, 3) := by decide +kernel
theorem dX10_reads_19 : decode cX10_reads 19 = .ok (.aload_n 0, 1) := by decide +kernel
theorem dX10_reads_20 : decode cX10_reads 20 = .ok (.iload_n 2, 1) := by decide +kernel
theorem dX10_reads_21 : decode cX10_reads 21 = .ok (.iload 4, 2) := by decide +kernel
theorem dX10_reads_23 : decode cX10_reads 23 = .ok (.iadd, 1) := by decide +kernel
theorem dX10_reads_24 : decode cX10_reads 24 = .ok (.invokevirtual 50, 3) := by decide +kernel
theorem dX10_reads_27 : decode cX10_reads 27 = .ok (.aload_n 1, 1) := by decide +kernel
theorem dX10_reads_28 : decode cX10_reads 28 = .ok (.iload 4, 2) := by decide +kernel
theorem dX10_reads_30 : decode cX10_reads 30 = .ok (.invokevirtual 101, 3) := by decide +kernel
theorem dX10_reads_33 : decode cX10_reads 33 = .ok (.if_icmp .eq 5, 3) := by decide +kernel
theorem dX10_reads_36 : decode cX10_reads 36 = .ok (.iconst 0, 1) := by decide +kernel
theorem dX10_reads_37 : decode cX10_reads 37 = .ok (.ireturn, 1) := by decide +kernel
theorem dX10_reads_38 : decode cX10_reads 38 = .ok (.iinc 4 1, 3) := by decide +kernel
theorem dX10_reads_41 : decode cX10_reads 41 = .ok (.goto (-28), 3) := by decide +kernel
theorem dX10_reads_44 : decode cX10_reads 44 = .ok (.iconst 1, 1) := by decide +kernel
theorem dX10_reads_45 : decode cX10_reads 45 = .ok (.ireturn, 1) := by decide +kernel
set_option maxRecDepth 20000 in
theorem ggX10_reads_X10_at : GoodIn wsX10_reads wsX10_at := goodIn_r _ [17, 18, 19, 61, 62, 63, 64, 65, 66] (by decide +kernel) (by decide +kernel)
set_option maxRecDepth 20000 in
theorem gX10_reads_X10_at : GoodIn wsX10_reads (wsV RX10 50 RX10 yX10_at wsX10_at) := goodIn_app (goodIn_of _ (by decide +kernel)) ggX10_reads_X10_at
set_option maxRecDepth 20000 in
theorem ggX10_reads_J0_charAt_5068e : GoodIn wsX10_reads wsJ0_charAt_5068e := goodIn_r _ [23, 6, 24, 25, 26, 4, 27, 11, 12, 28, 29, 30, 31, 32, 33, 34, 35, 36, 37, 38, 39, 40, 41, 42, 43, 44, 45, 46, 47, 48, 49, 50, 51, 52, 53, 54, 55, 56, 57, 58, 59, 60] (by decide +kernel) (by decide +kernel)
set_option maxRecDepth 20000 in
theorem gX10_reads_J0_charAt_5068e : GoodIn wsX10_reads (wsV RX10 101 RJ0 yJ0_charAt_5068e wsJ0_charAt_5068e) := goodIn_app (goodIn_of _ (by decide +kernel)) ggX10_reads_J0_charAt_5068e
set_option maxRecDepth 20000 in
theorem ggX10_reads_J0_length_8abf5 : GoodIn wsX10_reads wsJ0_length_8abf5 := goodIn_r _ [5, 6, 7, 8, 9, 4, 10, 11, 12, 57, 58, 59, 60] (by decide +kernel) (by decide +kernel)
set_option maxRecDepth 20000 in
theorem gX10_reads_J0_length_8abf5 : GoodIn wsX10_reads (wsV RX10 96 RJ0 yJ0_length_8abf5 wsJ0_length_8abf5) := goodIn_app (goodIn_of _ (by decide +kernel)) ggX10_reads_J0_length_8abf5
abbrev rX10_reads : Room := { frames := 4, cells := 0, slots := 0, locals := 85 }
noncomputable def bb_X10_reads_13 (Z : Nat → Nat) (M : gMem) (x0 : Nat) (x1 : Nat) (x2 : Int32) (x3 : Int32) (x4 : Int32) : Option ((gMem × Int32) ⊕ (Int32 × gMem)) :=
  (if x3 ≤ x4 then oI (some ((1 : Int32), M)) else ck (mT M x0 = 9) <| bd (f_X10_at M x0 ((x2 + x4))) fun r2 M2 => ck (x1 < 94) <| bd (f_J0_charAt_5068e Z M2 x1 x4) fun r4 M4 => (if r2 = r4 then some (.inl (M4, (x4 + (1 : Int32)))) else oI (some ((0 : Int32), M4))))
noncomputable def lp_X10_reads_13 (Z : Nat → Nat) (M : gMem) (x0 : Nat) (x1 : Nat) (x2 : Int32) (x3 : Int32) (x4 : Int32) : Option (Int32 × gMem) :=
  lp (fun (q : gMem × Int32) => bb_X10_reads_13 Z q.1 x0 x1 x2 x3 q.2) (M, x4)
noncomputable def b_X10_reads_0 (Z : Nat → Nat) (M : gMem) (x0 : Nat) (x1 : Nat) (x2 : Int32) (x3 : Int32) : Option (Int32 × gMem) :=
  ck (x1 < 94) <| bd (f_J0_length_8abf5 Z M x1) fun r7 M7 => (if r7 = x3 then lp_X10_reads_13 Z M7 x0 x1 x2 x3 ((0 : Int32)) else some ((0 : Int32), M7))
noncomputable def f_X10_reads (Z : Nat → Nat) (M : gMem) (x0 : Nat) (x1 : Nat) (x2 : Int32) (x3 : Int32) : Option (Int32 × gMem) :=
  b_X10_reads_0 Z M x0 x1 x2 x3
set_option maxHeartbeats 4000000 in
set_option maxRecDepth 100000 in
theorem tb_X10_reads_13 (X : gX p s m args meth c D cy B (gSt Z B H0) RX10 cX10_reads wsX10_reads 5) (hr : meth.sig.returnType = (some .boolean)) {Q : State → Prop} : ∀ (M : gMem) (x0 : Nat) (x1 : Nat) (x2 : Int32) (x3 : Int32) (x4 : Int32) (z : (gMem × Int32) ⊕ (Int32 × gMem)), bb_X10_reads_13 Z M x0 x1 x2 x3 x4 = some z → (Sum.elim (fun (q : gMem × Int32) => gGo p l e rX10_reads s m args below meth c D cy B H0 5 0 0 Q 13 [(0, vR (some x0)), (1, vR (some (Z (100 + x1)))), (2, vI x2), (3, vI x3), (4, vI q.2)] [] q.1) (fun (r : Int32 × gMem) => Q = gMQ below D cy B H0 args s 0 0 (some (vI r.1)) r.2)) z → gGo p l e rX10_reads s m args below meth c D cy B H0 5 0 0 Q 13 [(0, vR (some x0)), (1, vR (some (Z (100 + x1)))), (2, vI x2), (3, vI x3), (4, vI x4)] [] M := by
  intro M x0 x1 x2 x3 x4 z hf hK
  unfold bb_X10_reads_13 at hf
  refine g_iload X dX10_reads_13 rfl ?_
  refine g_iload_n X dX10_reads_15 rfl rfl ?_
  refine g_icmp_ge (tgt := 44) X dX10_reads_16 (by decide) (fun hc => ?_) (fun hc => ?_)
  · have hf := ife_t hc hf
    refine g_iconst (v := (1 : Int32)) X dX10_reads_44 (by decide) ?_
    obtain ⟨w1, hw1, hz1⟩ := oI_e hf
    subst hz1
    have hf := hw1
    cases hf
    refine g_eqQ hK ?_
    exact g_zret X hr (gnb (Or.inr rfl)) dX10_reads_45
  · have hf := ife_f hc hf
    refine g_aload_n X dX10_reads_19 rfl rfl ?_
    refine g_iload_n X dX10_reads_20 rfl rfl ?_
    refine g_iload X dX10_reads_21 rfl ?_
    refine g_iadd X dX10_reads_23 ?_
    obtain ⟨hT3, hf⟩ := ck_e hf
    obtain ⟨r2, M2, hq2, hf⟩ := bd_e hf
    refine g_callV (ci := 8) (b := x0) (As := [vI (x2 + x4)]) (st := []) (v := some (vI r2)) (M1 := M2) X (m_X10_at l hq2) (cwV 1 X.2.2.1 gX10_reads_X10_at rfl rfl rfl (by decide +kernel) ⟨Nat.le_of_ble_eq_true rfl, Nat.le_of_ble_eq_true rfl⟩) rfl rfl rfl hT3 (by decide) rfl (Nat.le_of_ble_eq_true rfl) dX10_reads_24 ⟨by decide, by decide⟩ ?_
    refine g_aload_n X dX10_reads_27 rfl rfl ?_
    refine g_iload X dX10_reads_28 rfl ?_
    obtain ⟨hg5, hf⟩ := ck_e hf
    obtain ⟨r4, M4, hq4, hf⟩ := bd_e hf
    refine g_callV0 (C := RJ0) (b := (Z (100 + x1))) (As := [vI x4]) (st := [vI r2]) (v := some (vI r4)) (M1 := M4) X (m_J0_charAt_5068e l hq4) (cwV 1 X.2.2.1 gX10_reads_J0_charAt_5068e rfl rfl rfl (by decide +kernel) ⟨Nat.le_of_ble_eq_true rfl, Nat.le_of_ble_eq_true rfl⟩) rfl rfl rfl (fun H hW => gO_recv (gSt_sO X hg5) hW) (Nat.le_of_ble_eq_true rfl) dX10_reads_30 ⟨by decide, by decide⟩ ?_
    refine g_icmp_eq (tgt := 38) X dX10_reads_33 (by decide) (fun hc => ?_) (fun hc => ?_)
    · have hf := ife_t hc hf
      refine g_iinc (v := (1 : Int32)) (lv' := [(4, vI (x4 + (1 : Int32))), (0, vR (some x0)), (1, vR (some (Z (100 + x1)))), (2, vI x2), (3, vI x3)]) X dX10_reads_38 rfl (by decide) (by decide) rfl ?_
      refine g_goto (tgt := 13) X dX10_reads_41 (by decide) ?_
      cases hf
      refine g_sub (lvsub_of _ _ [1, 2, 3, 4, 0] rfl) ?_
      exact hK
    · have hf := ife_f hc hf
      refine g_iconst (v := (0 : Int32)) X dX10_reads_36 (by decide) ?_
      obtain ⟨w6, hw6, hz6⟩ := oI_e hf
      subst hz6
      have hf := hw6
      cases hf
      refine g_eqQ hK ?_
      exact g_zret X hr (gnb (Or.inl rfl)) dX10_reads_37
set_option maxHeartbeats 4000000 in
set_option maxRecDepth 100000 in
theorem tl_X10_reads_13 (X : gX p s m args meth c D cy B (gSt Z B H0) RX10 cX10_reads wsX10_reads 5) (hr : meth.sig.returnType = (some .boolean)) {Q : State → Prop} : ∀ (M : gMem) (x0 : Nat) (x1 : Nat) (x2 : Int32) (x3 : Int32) (x4 : Int32) (z : Int32 × gMem), lp_X10_reads_13 Z M x0 x1 x2 x3 x4 = some z → (fun (r : Int32 × gMem) => Q = gMQ below D cy B H0 args s 0 0 (some (vI r.1)) r.2) z → gGo p l e rX10_reads s m args below meth c D cy B H0 5 0 0 Q 13 [(0, vR (some x0)), (1, vR (some (Z (100 + x1)))), (2, vI x2), (3, vI x3), (4, vI x4)] [] M := by
  intro M x0 x1 x2 x3 x4 z hf hK
  refine lp_ind (P := (fun (q : gMem × Int32) (z : Int32 × gMem) => (fun (r : Int32 × gMem) => Q = gMQ below D cy B H0 args s 0 0 (some (vI r.1)) r.2) z → gGo p l e rX10_reads s m args below meth c D cy B H0 5 0 0 Q 13 [(0, vR (some x0)), (1, vR (some (Z (100 + x1)))), (2, vI x2), (3, vI x3), (4, vI q.2)] [] q.1)) (fun q z hq => ?_) _ _ hf hK
  intro hK
  obtain ⟨w, hw, hm⟩ := hq
  refine tb_X10_reads_13 X hr _ _ _ _ _ _ w hw ?_
  cases w with
  | inl a => exact hm hK
  | inr b => cases hm; exact hK
set_option maxHeartbeats 4000000 in
set_option maxRecDepth 100000 in
theorem t_X10_reads_0 (X : gX p s m args meth c D cy B (gSt Z B H0) RX10 cX10_reads wsX10_reads 5) (hr : meth.sig.returnType = (some .boolean)) {Q : State → Prop} : ∀ (M : gMem) (x0 : Nat) (x1 : Nat) (x2 : Int32) (x3 : Int32) (z : Int32 × gMem), b_X10_reads_0 Z M x0 x1 x2 x3 = some z → (fun (r : Int32 × gMem) => Q = gMQ below D cy B H0 args s 0 0 (some (vI r.1)) r.2) z → gGo p l e rX10_reads s m args below meth c D cy B H0 5 0 0 Q 0 [(0, vR (some x0)), (1, vR (some (Z (100 + x1)))), (2, vI x2), (3, vI x3)] [] M := by
  intro M x0 x1 x2 x3 z hf hK
  unfold b_X10_reads_0 at hf
  refine g_aload_n X dX10_reads_0 rfl rfl ?_
  obtain ⟨hg8, hf⟩ := ck_e hf
  obtain ⟨r7, M7, hq7, hf⟩ := bd_e hf
  refine g_callV0 (C := RJ0) (b := (Z (100 + x1))) (As := []) (st := []) (v := some (vI r7)) (M1 := M7) X (m_J0_length_8abf5 l hq7) (cwV 0 X.2.2.1 gX10_reads_J0_length_8abf5 rfl rfl rfl (by decide +kernel) ⟨Nat.le_of_ble_eq_true rfl, Nat.le_of_ble_eq_true rfl⟩) rfl rfl rfl (fun H hW => gO_recv (gSt_sO X hg8) hW) (Nat.le_of_ble_eq_true rfl) dX10_reads_1 ⟨by decide, by decide⟩ ?_
  refine g_iload_n X dX10_reads_4 rfl rfl ?_
  refine g_icmp_eq (tgt := 10) X dX10_reads_5 (by decide) (fun hc => ?_) (fun hc => ?_)
  · have hf := ife_t hc hf
    refine g_iconst (v := (0 : Int32)) X dX10_reads_10 (by decide) ?_
    refine g_istore (lv' := [(4, vI (0 : Int32)), (0, vR (some x0)), (1, vR (some (Z (100 + x1)))), (2, vI x2), (3, vI x3)]) X dX10_reads_11 (by decide) rfl ?_
    refine g_sub (lvsub_of _ _ [1, 2, 3, 4, 0] rfl) ?_
    exact tl_X10_reads_13 X hr _ _ _ _ _ _ _ hf hK
  · have hf := ife_f hc hf
    refine g_iconst (v := (0 : Int32)) X dX10_reads_8 (by decide) ?_
    cases hf
    refine g_eqQ hK ?_
    exact g_zret X hr (gnb (Or.inl rfl)) dX10_reads_9
set_option maxHeartbeats 4000000 in
set_option maxRecDepth 100000 in
theorem m_X10_reads (l : Launch) {D : va_G} {cy : Nat → ClassId} {B : Nat} {H0 : Heap} {Z : Nat → Nat} {M M1 : gMem} {x0 : Nat} {x1 : Nat} {x2 : Int32} {x3 : Int32} {r : Int32} (hf : f_X10_reads Z M x0 x1 x2 x3 = some (r, M1)) : Met l yX10_reads wsX10_reads rX10_reads (va_Pc (Value.ref x0 :: List.map gv [vR (some (Z (100 + x1))), vI x2, vI x3]) (gPre D cy B H0 (gSt Z B H0) M)) (gQ D cy B H0 (some (vI r)) M1) 0 0 (gA B) := by
  refine Met.ofW (cc := cX10_reads) (maxL := 5) (ret := (some .boolean)) (by decide) rfl ?_
  intro p e s m args below meth c s₁ Bd hml hv
  obtain ⟨rfl, hW, hKK, hFs⟩ := hv
  have X : gX p s m _ meth c D cy B (gSt Z B H0) RX10 cX10_reads wsX10_reads 5 := ⟨Bd.exec, Bd.bytes, atoms_spec (ws := wsX10_reads) Bd.pre, findClass_of_methodNamed Bd.named, hml, hKK, by rw [hW.1]; exact hW.2.1, Bd.notSynchronized, hFs⟩
  have hr := Bd.returns
  have hl := lv_entry ([.ref x0, .ref (Z (100 + x1)), .int x2, .int x3]) (n := 5) (Nat.le_of_ble_eq_true rfl)
  show W p l e rX10_reads s m _ below meth c s.heap [] 0 0 _ (entryFrame m ([.ref x0, .ref (Z (100 + x1)), .int x2, .int x3] : List Value).toArray 5)
  rw [lg_entry_eq]
  generalize (lg_sl ([.ref x0, .ref (Z (100 + x1)), .int x2, .int x3]) ++ List.replicate (5 - (lg_sl ([.ref x0, .ref (Z (100 + x1)), .int x2, .int x3])).length) Slot.unset).toArray = ls at hl ⊢
  have hl : lv_has ls 5 (List.map gq [(0, vR (some x0)), (1, vR (some (Z (100 + x1)))), (2, vI x2), (3, vI x3)]) := hl
  exact t_X10_reads_0 X hr _ _ _ _ _ _ hf rfl s.heap [] ls hW va_S.rf (lv_has_sub hl (lvsub_of _ _ [0, 1, 2, 3] rfl))
/-! ## TideLots$Tape.signOf(IILTideLots$Sign;)LTideLots$Sign; -/
theorem dX10_signOf_0 : decode cX10_signOf 0 = .ok (.getstatic 85, 3) := by decide +kernel
theorem dX10_signOf_3 : decode cX10_signOf 3 = .ok (.astore 4, 2) := by decide +kernel
theorem dX10_signOf_5 : decode cX10_signOf 5 = .ok (.aload 4, 2) := by decide +kernel
theorem dX10_signOf_7 : decode cX10_signOf 7 = .ok (.arraylength, 1) := by decide +kernel
theorem dX10_signOf_8 : decode cX10_signOf 8 = .ok (.istore 5, 2) := by decide +kernel
theorem dX10_signOf_10 : decode cX10_signOf 10 = .ok (.iconst 0, 1) := by decide +kernel
theorem dX10_signOf_11 : decode cX10_signOf 11 = .ok (.istore 6, 2) := by decide +kernel
theorem dX10_signOf_13 : decode cX10_signOf 13 = .ok (.iload 6, 2) := by decide +kernel
theorem dX10_signOf_15 : decode cX10_signOf 15 = .ok (.iload 5, 2) := by decide +kernel
theorem dX10_signOf_17 : decode cX10_signOf 17 = .ok (.if_icmp .ge 33, 3) := by decide +kernel
theorem dX10_signOf_20 : decode cX10_signOf 20 = .ok (.aload 4, 2) := by decide +kernel
theorem dX10_signOf_22 : decode cX10_signOf 22 = .ok (.iload 6, 2) := by decide +kernel
theorem dX10_signOf_24 : decode cX10_signOf 24 = .ok (.aaload, 1) := by decide +kernel
theorem dX10_signOf_25 : decode cX10_signOf 25 = .ok (.astore 7, 2) := by decide +kernel
theorem dX10_signOf_27 : decode cX10_signOf 27 = .ok (.aload_n 0, 1) := by decide +kernel
theorem dX10_signOf_28 : decode cX10_signOf 28 = .ok (.aload 7, 2) := by decide +kernel
theorem dX10_signOf_30 : decode cX10_signOf 30 = .ok (.getfield 88, 3) := by decide +kernel
theorem dX10_signOf_33 : decode cX10_signOf 33 = .ok (.iload_n 1, 1) := by decide +kernel
theorem dX10_signOf_34 : decode cX10_signOf 34 = .ok (.iload_n 2, 1) := by decide +kernel
theorem dX10_signOf_35 : decode cX10_signOf 35 = .ok (.invokevirtual 92, 3) := by decide +kernel
theorem dX10_signOf_38 : decode cX10_signOf 38 = .ok (.ifCond .eq 6, 3) := by decide +kernel
theorem dX10_signOf_41 : decode cX10_signOf 41 = .ok (.aload 7, 2) := by decide +kernel
theorem dX10_signOf_43 : decode cX10_signOf 43 = .ok (.areturn, 1) := by decide +kernel
theorem dX10_signOf_44 : decode cX10_signOf 44 = .ok (.iinc 6 1, 3) := by decide +kernel
theorem dX10_signOf_47 : decode cX10_signOf 47 = .ok (.goto (-34), 3) := by decide +kernel
theorem dX10_signOf_50 : decode cX10_signOf 50 = .ok (.aload_n 3, 1) := by decide +kernel
theorem dX10_signOf_51 : decode cX10_signOf 51 = .ok (.areturn, 1) := by decide +kernel
set_option maxRecDepth 20000 in
theorem ggX10_signOf_X10_reads : GoodIn wsX10_signOf wsX10_reads := goodIn_r _ [6, 7, 8, 9, 10, 11, 12, 13, 14, 15, 16, 17, 18, 19, 20, 21, 5, 22, 23, 24, 25, 26, 27, 28, 29, 30, 31, 32, 33, 34, 35, 36, 37, 38, 39, 40, 41, 42, 43, 44, 45, 46, 47, 48, 49, 50, 51, 52, 53, 54, 55, 56, 57, 58, 59, 60, 61, 62, 63, 64, 65, 66, 67, 68, 69, 70, 71] (by decide +kernel) (by decide +kernel)
set_option maxRecDepth 20000 in
theorem gX10_signOf_X10_reads : GoodIn wsX10_signOf (wsV RX10 92 RX10 yX10_reads wsX10_reads) := goodIn_app (goodIn_of _ (by decide +kernel)) ggX10_signOf_X10_reads
theorem k_X10_signOf_f88 : Cond.fieldLink RX10 88 "TideLots$Sign" "text" "Ljava/lang/String;" ∈ wsX10_signOf := by decide +kernel
theorem kn_X10_85 : Cond.fieldLinkNest "TideLots$Tape" (85 : Nat) "TideLots" "SIGNS" "[LTideLots$Sign;" "TideLots" ∈ gNs := by decide +kernel
abbrev rX10_signOf : Room := { frames := 5, cells := 0, slots := 0, locals := 109 }
noncomputable def bb_X10_signOf_13 (Z : Nat → Nat) (M : gMem) (x0 : Nat) (x1 : Int32) (x2 : Int32) (x3 : Option Nat) (x5 : Int32) (x6 : Int32) : Option ((gMem × Int32) ⊕ (Option Nat × gMem)) :=
  (if x5 ≤ x6 then oI (some (x3, M)) else ck (inb x6 45) <| dr (ordZ Z ((some (Z (x6.toNatClampNeg))))) fun o3 => ck (mT M x0 = 9) <| bd (f_X10_reads Z M x0 o3 x1 x2) fun r4 M4 => (if r4 = 0 then some (.inl (M4, (x6 + (1 : Int32)))) else oI (some ((some (Z (x6.toNatClampNeg))), M4))))
noncomputable def lp_X10_signOf_13 (Z : Nat → Nat) (M : gMem) (x0 : Nat) (x1 : Int32) (x2 : Int32) (x3 : Option Nat) (x5 : Int32) (x6 : Int32) : Option (Option Nat × gMem) :=
  lp (fun (q : gMem × Int32) => bb_X10_signOf_13 Z q.1 x0 x1 x2 x3 x5 q.2) (M, x6)
noncomputable def b_X10_signOf_0 (Z : Nat → Nat) (M : gMem) (x0 : Nat) (x1 : Int32) (x2 : Int32) (x3 : Option Nat) : Option (Option Nat × gMem) :=
  lp_X10_signOf_13 Z M x0 x1 x2 x3 ((Int32.ofNat 45)) ((0 : Int32))
noncomputable def f_X10_signOf (Z : Nat → Nat) (M : gMem) (x0 : Nat) (x1 : Int32) (x2 : Int32) (x3 : Option Nat) : Option (Option Nat × gMem) :=
  b_X10_signOf_0 Z M x0 x1 x2 x3
set_option maxHeartbeats 4000000 in
set_option maxRecDepth 100000 in
theorem tb_X10_signOf_13 (X : gX p s m args meth c D cy B (gSt Z B H0) RX10 cX10_signOf wsX10_signOf 8) (hr : meth.sig.returnType = (some (.object "TideLots$Sign"))) {Q : State → Prop} : ∀ (M : gMem) (x0 : Nat) (x1 : Int32) (x2 : Int32) (x3 : Option Nat) (x5 : Int32) (x6 : Int32) (z : (gMem × Int32) ⊕ (Option Nat × gMem)), bb_X10_signOf_13 Z M x0 x1 x2 x3 x5 x6 = some z → (Sum.elim (fun (q : gMem × Int32) => gGo p l e rX10_signOf s m args below meth c D cy B H0 8 0 0 Q 13 [(0, vR (some x0)), (1, vI x1), (2, vI x2), (3, vR x3), (4, vR (some (Z 45))), (5, vI x5), (6, vI q.2)] [] q.1) (fun (r : Option Nat × gMem) => Q = gMQ below D cy B H0 args s 0 0 (some (vR r.1)) r.2)) z → gGo p l e rX10_signOf s m args below meth c D cy B H0 8 0 0 Q 13 [(0, vR (some x0)), (1, vI x1), (2, vI x2), (3, vR x3), (4, vR (some (Z 45))), (5, vI x5), (6, vI x6)] [] M := by
  intro M x0 x1 x2 x3 x5 x6 z hf hK
  unfold bb_X10_signOf_13 at hf
  refine g_iload X dX10_signOf_13 rfl ?_
  refine g_iload X dX10_signOf_15 rfl ?_
  refine g_icmp_ge (tgt := 50) X dX10_signOf_17 (by decide) (fun hc => ?_) (fun hc => ?_)
  · have hf := ife_t hc hf
    refine g_aload_n X dX10_signOf_50 rfl rfl ?_
    obtain ⟨w1, hw1, hz1⟩ := oI_e hf
    subst hz1
    have hf := hw1
    cases hf
    refine g_eqQ hK ?_
    exact g_aret X hr (Or.inl ⟨_, rfl⟩) dX10_signOf_51
  · have hf := ife_f hc hf
    refine g_aload X dX10_signOf_20 rfl ?_
    refine g_iload X dX10_signOf_22 rfl ?_
    obtain ⟨hg2, hf⟩ := ck_e hf
    refine g_aaldT (w := some (Z (x6.toNatClampNeg))) X (gSt_T45 X) rfl (gin_nn hg2) (gin_lt hg2) rfl dX10_signOf_24 ?_
    refine g_astore (lv' := [(7, vR (some (Z (x6.toNatClampNeg)))), (0, vR (some x0)), (1, vI x1), (2, vI x2), (3, vR x3), (4, vR (some (Z 45))), (5, vI x5), (6, vI x6)]) X dX10_signOf_25 (by decide) rfl ?_
    refine g_aload_n X dX10_signOf_27 rfl rfl ?_
    refine g_aload X dX10_signOf_28 rfl ?_
    obtain ⟨o3, ho3, hf⟩ := dr_e hf
    refine g_getO (w := vR (some (Z (100 + o3)))) X (gSt_tx X (ordZ_lt ho3)) (ordZ_eq ho3) k_X10_signOf_f88 rfl dX10_signOf_30 ?_
    refine g_iload_n X dX10_signOf_33 rfl rfl ?_
    refine g_iload_n X dX10_signOf_34 rfl rfl ?_
    obtain ⟨hT5, hf⟩ := ck_e hf
    obtain ⟨r4, M4, hq4, hf⟩ := bd_e hf
    refine g_callV (ci := 8) (b := x0) (As := [vR (some (Z (100 + o3))), vI x1, vI x2]) (st := []) (v := some (vI r4)) (M1 := M4) X (m_X10_reads l hq4) (cwV 3 X.2.2.1 gX10_signOf_X10_reads rfl rfl rfl (by decide +kernel) ⟨Nat.le_of_ble_eq_true rfl, Nat.le_of_ble_eq_true rfl⟩) rfl rfl rfl hT5 (by decide) rfl (Nat.le_of_ble_eq_true rfl) dX10_signOf_35 ⟨by decide, by decide⟩ ?_
    refine g_if_eq (tgt := 44) X dX10_signOf_38 (by decide) (fun hc => ?_) (fun hc => ?_)
    · have hf := ife_t hc hf
      refine g_iinc (v := (1 : Int32)) (lv' := [(6, vI (x6 + (1 : Int32))), (7, vR (some (Z (x6.toNatClampNeg)))), (0, vR (some x0)), (1, vI x1), (2, vI x2), (3, vR x3), (4, vR (some (Z 45))), (5, vI x5)]) X dX10_signOf_44 rfl (by decide) (by decide) rfl ?_
      refine g_goto (tgt := 13) X dX10_signOf_47 (by decide) ?_
      cases hf
      refine g_sub (lvsub_of _ _ [2, 3, 4, 5, 6, 7, 0] rfl) ?_
      exact hK
    · have hf := ife_f hc hf
      refine g_aload X dX10_signOf_41 rfl ?_
      obtain ⟨w6, hw6, hz6⟩ := oI_e hf
      subst hz6
      have hf := hw6
      cases hf
      refine g_eqQ hK ?_
      exact g_aret X hr (Or.inl ⟨_, rfl⟩) dX10_signOf_43
set_option maxHeartbeats 4000000 in
set_option maxRecDepth 100000 in
theorem tl_X10_signOf_13 (X : gX p s m args meth c D cy B (gSt Z B H0) RX10 cX10_signOf wsX10_signOf 8) (hr : meth.sig.returnType = (some (.object "TideLots$Sign"))) {Q : State → Prop} : ∀ (M : gMem) (x0 : Nat) (x1 : Int32) (x2 : Int32) (x3 : Option Nat) (x5 : Int32) (x6 : Int32) (z : Option Nat × gMem), lp_X10_signOf_13 Z M x0 x1 x2 x3 x5 x6 = some z → (fun (r : Option Nat × gMem) => Q = gMQ below D cy B H0 args s 0 0 (some (vR r.1)) r.2) z → gGo p l e rX10_signOf s m args below meth c D cy B H0 8 0 0 Q 13 [(0, vR (some x0)), (1, vI x1), (2, vI x2), (3, vR x3), (4, vR (some (Z 45))), (5, vI x5), (6, vI x6)] [] M := by
  intro M x0 x1 x2 x3 x5 x6 z hf hK
  refine lp_ind (P := (fun (q : gMem × Int32) (z : Option Nat × gMem) => (fun (r : Option Nat × gMem) => Q = gMQ below D cy B H0 args s 0 0 (some (vR r.1)) r.2) z → gGo p l e rX10_signOf s m args below meth c D cy B H0 8 0 0 Q 13 [(0, vR (some x0)), (1, vI x1), (2, vI x2), (3, vR x3), (4, vR (some (Z 45))), (5, vI x5), (6, vI q.2)] [] q.1)) (fun q z hq => ?_) _ _ hf hK
  intro hK
  obtain ⟨w, hw, hm⟩ := hq
  refine tb_X10_signOf_13 X hr _ _ _ _ _ _ _ w hw ?_
  cases w with
  | inl a => exact hm hK
  | inr b => cases hm; exact hK
set_option maxHeartbeats 4000000 in
set_option maxRecDepth 100000 in
theorem t_X10_signOf_0 (X : gX p s m args meth c D cy B (gSt Z B H0) RX10 cX10_signOf wsX10_signOf 8) (hr : meth.sig.returnType = (some (.object "TideLots$Sign"))) {Q : State → Prop} : ∀ (M : gMem) (x0 : Nat) (x1 : Int32) (x2 : Int32) (x3 : Option Nat) (z : Option Nat × gMem), b_X10_signOf_0 Z M x0 x1 x2 x3 = some z → (fun (r : Option Nat × gMem) => Q = gMQ below D cy B H0 args s 0 0 (some (vR r.1)) r.2) z → gGo p l e rX10_signOf s m args below meth c D cy B H0 8 0 0 Q 0 [(0, vR (some x0)), (1, vI x1), (2, vI x2), (3, vR x3)] [] M := by
  intro M x0 x1 x2 x3 z hf hK
  unfold b_X10_signOf_0 at hf
  refine g_getsN (w := vR (some (Z 45))) X (gSt_SG X) (gNw X _ kn_X10_85) rfl dX10_signOf_0 ?_
  refine g_astore (lv' := [(4, vR (some (Z 45))), (0, vR (some x0)), (1, vI x1), (2, vI x2), (3, vR x3)]) X dX10_signOf_3 (by decide) rfl ?_
  refine g_aload X dX10_signOf_5 rfl ?_
  refine g_alenT X (gSt_T45 X) rfl dX10_signOf_7 ?_
  refine g_istore (lv' := [(5, vI (Int32.ofNat 45)), (4, vR (some (Z 45))), (0, vR (some x0)), (1, vI x1), (2, vI x2), (3, vR x3)]) X dX10_signOf_8 (by decide) rfl ?_
  refine g_iconst (v := (0 : Int32)) X dX10_signOf_10 (by decide) ?_
  refine g_istore (lv' := [(6, vI (0 : Int32)), (5, vI (Int32.ofNat 45)), (4, vR (some (Z 45))), (0, vR (some x0)), (1, vI x1), (2, vI x2), (3, vR x3)]) X dX10_signOf_11 (by decide) rfl ?_
  refine g_sub (lvsub_of _ _ [3, 4, 5, 6, 2, 1, 0] rfl) ?_
  exact tl_X10_signOf_13 X hr _ _ _ _ _ _ _ _ hf hK
set_option maxHeartbeats 4000000 in
set_option maxRecDepth 100000 in
theorem m_X10_signOf (l : Launch) {D : va_G} {cy : Nat → ClassId} {B : Nat} {H0 : Heap} {Z : Nat → Nat} {M M1 : gMem} {x0 : Nat} {x1 : Int32} {x2 : Int32} {x3 : Option Nat} {r : Option Nat} (hf : f_X10_signOf Z M x0 x1 x2 x3 = some (r, M1)) : Met l yX10_signOf wsX10_signOf rX10_signOf (va_Pc (Value.ref x0 :: List.map gv [vI x1, vI x2, vR x3]) (gPre D cy B H0 (gSt Z B H0) M)) (gQ D cy B H0 (some (vR r)) M1) 0 0 (gA B) := by
  refine Met.ofW (cc := cX10_signOf) (maxL := 8) (ret := (some (.object "TideLots$Sign"))) (by decide) rfl ?_
  intro p e s m args below meth c s₁ Bd hml hv
  obtain ⟨rfl, hW, hKK, hFs⟩ := hv
  have X : gX p s m _ meth c D cy B (gSt Z B H0) RX10 cX10_signOf wsX10_signOf 8 := ⟨Bd.exec, Bd.bytes, atoms_spec (ws := wsX10_signOf) Bd.pre, findClass_of_methodNamed Bd.named, hml, hKK, by rw [hW.1]; exact hW.2.1, Bd.notSynchronized, hFs⟩
  have hr := Bd.returns
  rcases x3 with _ | x3
  · have hl := lv_entry ([.ref x0, .int x1, .int x2, .null]) (n := 8) (Nat.le_of_ble_eq_true rfl)
    show W p l e rX10_signOf s m _ below meth c s.heap [] 0 0 _ (entryFrame m ([.ref x0, .int x1, .int x2, .null] : List Value).toArray 8)
    rw [lg_entry_eq]
    generalize (lg_sl ([.ref x0, .int x1, .int x2, .null]) ++ List.replicate (8 - (lg_sl ([.ref x0, .int x1, .int x2, .null])).length) Slot.unset).toArray = ls at hl ⊢
    have hl : lv_has ls 8 (List.map gq [(0, vR (some x0)), (1, vI x1), (2, vI x2), (3, vR none)]) := hl
    exact t_X10_signOf_0 X hr _ _ _ _ _ _ hf rfl s.heap [] ls hW va_S.rf (lv_has_sub hl (lvsub_of _ _ [0, 1, 2, 3] rfl))
  · have hl := lv_entry ([.ref x0, .int x1, .int x2, .ref x3]) (n := 8) (Nat.le_of_ble_eq_true rfl)
    show W p l e rX10_signOf s m _ below meth c s.heap [] 0 0 _ (entryFrame m ([.ref x0, .int x1, .int x2, .ref x3] : List Value).toArray 8)
    rw [lg_entry_eq]
    generalize (lg_sl ([.ref x0, .int x1, .int x2, .ref x3]) ++ List.replicate (8 - (lg_sl ([.ref x0, .int x1, .int x2, .ref x3])).length) Slot.unset).toArray = ls at hl ⊢
    have hl : lv_has ls 8 (List.map gq [(0, vR (some x0)), (1, vI x1), (2, vI x2), (3, vR (some x3))]) := hl
    exact t_X10_signOf_0 X hr _ _ _ _ _ _ hf rfl s.heap [] ls hW va_S.rf (lv_has_sub hl (lvsub_of _ _ [0, 1, 2, 3] rfl))
/-! ## TideLots$Tape.scanSymbol()LTideLots$Sign; -/
theorem dX10_scanSymbol_0 : decode cX10_scanSymbol 0 = .ok (.iconst 2, 1) := by decide +kernel
theorem dX10_scanSymbol_1 : decode cX10_scanSymbol 1 = .ok (.istore_n 1, 1) := by decide +kernel
theorem dX10_scanSymbol_2 : decode cX10_scanSymbol 2 = .ok (.iload_n 1, 1) := by decide +kernel
theorem dX10_scanSymbol_3 : decode cX10_scanSymbol 3 = .ok (.iconst 1, 1) := by decide +kernel
theorem dX10_scanSymbol_4 : decode cX10_scanSymbol 4 = .ok (.if_icmp .lt 41, 3) := by decide +kernel
theorem dX10_scanSymbol_7 : decode cX10_scanSymbol 7 = .ok (.aload_n 0, 1) := by decide +kernel
theorem dX10_scanSymbol_8 : decode cX10_scanSymbol 8 = .ok (.aload_n 0, 1) := by decide +kernel
theorem dX10_scanSymbol_9 : decode cX10_scanSymbol 9 = .ok (.getfield 37, 3) := by decide +kernel
theorem dX10_scanSymbol_12 : decode cX10_scanSymbol 12 = .ok (.iload_n 1, 1) := by decide +kernel
theorem dX10_scanSymbol_13 : decode cX10_scanSymbol 13 = .ok (.getstatic 47, 3) := by decide +kernel
theorem dX10_scanSymbol_16 : decode cX10_scanSymbol 16 = .ok (.invokevirtual 76, 3) := by decide +kernel
theorem dX10_scanSymbol_19 : decode cX10_scanSymbol 19 = .ok (.astore_n 2, 1) := by decide +kernel
theorem dX10_scanSymbol_20 : decode cX10_scanSymbol 20 = .ok (.aload_n 2, 1) := by decide +kernel
theorem dX10_scanSymbol_21 : decode cX10_scanSymbol 21 = .ok (.getstatic 47, 3) := by decide +kernel
theorem dX10_scanSymbol_24 : decode cX10_scanSymbol 24 = .ok (.if_acmp .eq 15, 3) := by decide +kernel
theorem dX10_scanSymbol_27 : decode cX10_scanSymbol 27 = .ok (.aload_n 0, 1) := by decide +kernel
theorem dX10_scanSymbol_28 : decode cX10_scanSymbol 28 = .ok (.dup, 1) := by decide +kernel
theorem dX10_scanSymbol_29 : decode cX10_scanSymbol 29 = .ok (.getfield 37, 3) := by decide +kernel
theorem dX10_scanSymbol_32 : decode cX10_scanSymbol 32 = .ok (.iload_n 1, 1) := by decide +kernel
theorem dX10_scanSymbol_33 : decode cX10_scanSymbol 33 = .ok (.iadd, 1) := by decide +kernel
theorem dX10_scanSymbol_34 : decode cX10_scanSymbol 34 = .ok (.putfield 37, 3) := by decide +kernel
theorem dX10_scanSymbol_37 : decode cX10_scanSymbol 37 = .ok (.aload_n 2, 1) := by decide +kernel
theorem dX10_scanSymbol_38 : decode cX10_scanSymbol 38 = .ok (.areturn, 1) := by decide +kernel
theorem dX10_scanSymbol_39 : decode cX10_scanSymbol 39 = .ok (.iinc 1 (-1), 3) := by decide +kernel
theorem dX10_scanSymbol_42 : decode cX10_scanSymbol 42 = .ok (.goto (-40), 3) := by decide +kernel
theorem dX10_scanSymbol_45 : decode cX10_scanSymbol 45 = .ok (.getstatic 47, 3) := by decide +kernel
theorem dX10_scanSymbol_48 : decode cX10_scanSymbol 48 = .ok (.areturn, 1) := by decide +kernel
set_option maxRecDepth 20000 in
theorem ggX10_scanSymbol_X10_signOf : GoodIn wsX10_scanSymbol wsX10_signOf := goodIn_r _ [7, 8, 9, 10, 11, 6, 12, 13, 14, 15, 16, 17, 18, 19, 20, 21, 22, 23, 24, 25, 26, 27, 28, 29, 30, 31, 32, 33, 34, 35, 36, 37, 38, 39, 40, 41, 42, 43, 44, 45, 46, 47, 48, 49, 50, 51, 52, 53, 54, 55, 56, 57, 58, 59, 60, 61, 62, 63, 64, 65, 66, 67, 74, 75, 76, 77, 68, 69, 70, 71, 72, 73] (by decide +kernel) (by decide +kernel)
set_option maxRecDepth 20000 in
theorem gX10_scanSymbol_X10_signOf : GoodIn wsX10_scanSymbol (wsV RX10 76 RX10 yX10_signOf wsX10_signOf) := goodIn_app (goodIn_of _ (by decide +kernel)) ggX10_scanSymbol_X10_signOf
theorem k_X10_scanSymbol_f47 : Cond.fieldLink RX10 47 "TideLots$Sign" "NO_TOKEN" "LTideLots$Sign;" ∈ wsX10_scanSymbol := by decide +kernel
theorem k_X10_scanSymbol_f37 : Cond.fieldLink RX10 37 "TideLots$Tape" "end" "I" ∈ wsX10_scanSymbol := by decide +kernel
theorem i_X10_scanSymbol_X10 : ∀ w ∈ u_ws RX10 TX10 6, w ∈ wsX10_scanSymbol := by decide +kernel
abbrev rX10_scanSymbol : Room := { frames := 6, cells := 0, slots := 0, locals := 136 }
noncomputable def bb_X10_scanSymbol_2 (Z : Nat → Nat) (M : gMem) (x0 : Nat) (x1 : Int32) : Option ((gMem × Int32) ⊕ (Option Nat × gMem)) :=
  (if x1 < (1 : Int32) then oI (some ((some (Z 43)), M)) else ck (mT M x0 = 9) <| bd (f_X10_signOf Z M x0 ((mI M x0 5)) x1 ((some (Z 43)))) fun r3 M3 => (if r3 = (some (Z 43)) then some (.inl (M3, (x1 + (-1 : Int32)))) else ck (mT M3 x0 = 9) <| lw (wI M3 x0 5 (((mI M3 x0 5) + x1))) fun M5 => oI (some (r3, M5))))
noncomputable def lp_X10_scanSymbol_2 (Z : Nat → Nat) (M : gMem) (x0 : Nat) (x1 : Int32) : Option (Option Nat × gMem) :=
  lp (fun (q : gMem × Int32) => bb_X10_scanSymbol_2 Z q.1 x0 q.2) (M, x1)
noncomputable def b_X10_scanSymbol_0 (Z : Nat → Nat) (M : gMem) (x0 : Nat) : Option (Option Nat × gMem) :=
  lp_X10_scanSymbol_2 Z M x0 ((2 : Int32))
noncomputable def f_X10_scanSymbol (Z : Nat → Nat) (M : gMem) (x0 : Nat) : Option (Option Nat × gMem) :=
  b_X10_scanSymbol_0 Z M x0
set_option maxHeartbeats 4000000 in
set_option maxRecDepth 100000 in
theorem tb_X10_scanSymbol_2 (X : gX p s m args meth c D cy B (gSt Z B H0) RX10 cX10_scanSymbol wsX10_scanSymbol 3) (hr : meth.sig.returnType = (some (.object "TideLots$Sign"))) {Q : State → Prop} : ∀ (M : gMem) (x0 : Nat) (x1 : Int32) (z : (gMem × Int32) ⊕ (Option Nat × gMem)), bb_X10_scanSymbol_2 Z M x0 x1 = some z → (Sum.elim (fun (q : gMem × Int32) => gGo p l e rX10_scanSymbol s m args below meth c D cy B H0 3 0 0 Q 2 [(0, vR (some x0)), (1, vI q.2)] [] q.1) (fun (r : Option Nat × gMem) => Q = gMQ below D cy B H0 args s 0 0 (some (vR r.1)) r.2)) z → gGo p l e rX10_scanSymbol s m args below meth c D cy B H0 3 0 0 Q 2 [(0, vR (some x0)), (1, vI x1)] [] M := by
  intro M x0 x1 z hf hK
  unfold bb_X10_scanSymbol_2 at hf
  refine g_iload_n X dX10_scanSymbol_2 rfl rfl ?_
  refine g_iconst (v := (1 : Int32)) X dX10_scanSymbol_3 (by decide) ?_
  refine g_icmp_lt (tgt := 45) X dX10_scanSymbol_4 (by decide) (fun hc => ?_) (fun hc => ?_)
  · have hf := ife_t hc hf
    refine g_gets (w := vR (some (Z 43))) X (gSt_E X 43 (by decide)) k_X10_scanSymbol_f47 rfl dX10_scanSymbol_45 ?_
    obtain ⟨w1, hw1, hz1⟩ := oI_e hf
    subst hz1
    have hf := hw1
    cases hf
    refine g_eqQ hK ?_
    exact g_aret X hr (Or.inl ⟨_, rfl⟩) dX10_scanSymbol_48
  · have hf := ife_f hc hf
    refine g_aload_n X dX10_scanSymbol_7 rfl rfl ?_
    refine g_aload_n X dX10_scanSymbol_8 rfl rfl ?_
    obtain ⟨hT2, hf⟩ := ck_e hf
    refine g_get (ci := 8) (v := vI (mI M x0 5)) 5 X cdX10 i_X10_scanSymbol_X10 (by decide) k_X10_scanSymbol_f37 rfl dX10_scanSymbol_9 rfl hT2 rfl ?_
    refine g_iload_n X dX10_scanSymbol_12 rfl rfl ?_
    refine g_gets (w := vR (some (Z 43))) X (gSt_E X 43 (by decide)) k_X10_scanSymbol_f47 rfl dX10_scanSymbol_13 ?_
    obtain ⟨r3, M3, hq3, hf⟩ := bd_e hf
    refine g_callV (ci := 8) (b := x0) (As := [vI (mI M x0 5), vI x1, vR (some (Z 43))]) (st := []) (v := some (vR r3)) (M1 := M3) X (m_X10_signOf l hq3) (cwV 3 X.2.2.1 gX10_scanSymbol_X10_signOf rfl rfl rfl (by decide +kernel) ⟨Nat.le_of_ble_eq_true rfl, Nat.le_of_ble_eq_true rfl⟩) rfl rfl rfl hT2 (by decide) rfl (Nat.le_of_ble_eq_true rfl) dX10_scanSymbol_16 ⟨by decide, by decide⟩ ?_
    refine g_astore_n (lv' := [(2, vR r3), (0, vR (some x0)), (1, vI x1)]) X dX10_scanSymbol_19 rfl (by decide) rfl ?_
    refine g_aload_n X dX10_scanSymbol_20 rfl rfl ?_
    refine g_gets (w := vR (some (Z 43))) X (gSt_E X 43 (by decide)) k_X10_scanSymbol_f47 rfl dX10_scanSymbol_21 ?_
    refine g_acmp_eq (tgt := 39) X dX10_scanSymbol_24 (by decide) (fun hc => ?_) (fun hc => ?_)
    · have hf := ife_t hc hf
      refine g_iinc (v := (-1 : Int32)) (lv' := [(1, vI (x1 + (-1 : Int32))), (2, vR r3), (0, vR (some x0))]) X dX10_scanSymbol_39 rfl (by decide) (by decide) rfl ?_
      refine g_goto (tgt := 2) X dX10_scanSymbol_42 (by decide) ?_
      cases hf
      refine g_sub (lvsub_of _ _ [2, 0] rfl) ?_
      exact hK
    · have hf := ife_f hc hf
      refine g_aload_n X dX10_scanSymbol_27 rfl rfl ?_
      refine g_dup X dX10_scanSymbol_28 rfl ?_
      obtain ⟨hT4, hf⟩ := ck_e hf
      refine g_get (ci := 8) (v := vI (mI M3 x0 5)) 5 X cdX10 i_X10_scanSymbol_X10 (by decide) k_X10_scanSymbol_f37 rfl dX10_scanSymbol_29 rfl hT4 rfl ?_
      refine g_iload_n X dX10_scanSymbol_32 rfl rfl ?_
      refine g_iadd X dX10_scanSymbol_33 ?_
      refine g_putI (ci := 8) 5 X cdX10 i_X10_scanSymbol_X10 (by decide) k_X10_scanSymbol_f37 rfl dX10_scanSymbol_34 rfl hT4 (Or.inl rfl) rfl rfl rfl ?_
      obtain ⟨M5, hM5, hf⟩ := lw_e hf
      rw [← hM5]
      have hT6 : mT M5 x0 = 9 := by rw [hM5]; exact hT4
      refine g_aload_n X dX10_scanSymbol_37 rfl rfl ?_
      obtain ⟨w7, hw7, hz7⟩ := oI_e hf
      subst hz7
      have hf := hw7
      cases hf
      refine g_eqQ hK ?_
      exact g_aret X hr (Or.inl ⟨_, rfl⟩) dX10_scanSymbol_38
set_option maxHeartbeats 4000000 in
set_option maxRecDepth 100000 in
theorem tl_X10_scanSymbol_2 (X : gX p s m args meth c D cy B (gSt Z B H0) RX10 cX10_scanSymbol wsX10_scanSymbol 3) (hr : meth.sig.returnType = (some (.object "TideLots$Sign"))) {Q : State → Prop} : ∀ (M : gMem) (x0 : Nat) (x1 : Int32) (z : Option Nat × gMem), lp_X10_scanSymbol_2 Z M x0 x1 = some z → (fun (r : Option Nat × gMem) => Q = gMQ below D cy B H0 args s 0 0 (some (vR r.1)) r.2) z → gGo p l e rX10_scanSymbol s m args below meth c D cy B H0 3 0 0 Q 2 [(0, vR (some x0)), (1, vI x1)] [] M := by
  intro M x0 x1 z hf hK
  refine lp_ind (P := (fun (q : gMem × Int32) (z : Option Nat × gMem) => (fun (r : Option Nat × gMem) => Q = gMQ below D cy B H0 args s 0 0 (some (vR r.1)) r.2) z → gGo p l e rX10_scanSymbol s m args below meth c D cy B H0 3 0 0 Q 2 [(0, vR (some x0)), (1, vI q.2)] [] q.1)) (fun q z hq => ?_) _ _ hf hK
  intro hK
  obtain ⟨w, hw, hm⟩ := hq
  refine tb_X10_scanSymbol_2 X hr _ _ _ w hw ?_
  cases w with
  | inl a => exact hm hK
  | inr b => cases hm; exact hK
set_option maxHeartbeats 4000000 in
set_option maxRecDepth 100000 in
theorem t_X10_scanSymbol_0 (X : gX p s m args meth c D cy B (gSt Z B H0) RX10 cX10_scanSymbol wsX10_scanSymbol 3) (hr : meth.sig.returnType = (some (.object "TideLots$Sign"))) {Q : State → Prop} : ∀ (M : gMem) (x0 : Nat) (z : Option Nat × gMem), b_X10_scanSymbol_0 Z M x0 = some z → (fun (r : Option Nat × gMem) => Q = gMQ below D cy B H0 args s 0 0 (some (vR r.1)) r.2) z → gGo p l e rX10_scanSymbol s m args below meth c D cy B H0 3 0 0 Q 0 [(0, vR (some x0))] [] M := by
  intro M x0 z hf hK
  unfold b_X10_scanSymbol_0 at hf
  refine g_iconst (v := (2 : Int32)) X dX10_scanSymbol_0 (by decide) ?_
  refine g_istore_n (lv' := [(1, vI (2 : Int32)), (0, vR (some x0))]) X dX10_scanSymbol_1 rfl (by decide) rfl ?_
  refine g_sub (lvsub_of _ _ [1, 0] rfl) ?_
  exact tl_X10_scanSymbol_2 X hr _ _ _ _ hf hK
set_option maxHeartbeats 4000000 in
set_option maxRecDepth 100000 in
theorem m_X10_scanSymbol (l : Launch) {D : va_G} {cy : Nat → ClassId} {B : Nat} {H0 : Heap} {Z : Nat → Nat} {M M1 : gMem} {x0 : Nat} {r : Option Nat} (hf : f_X10_scanSymbol Z M x0 = some (r, M1)) : Met l yX10_scanSymbol wsX10_scanSymbol rX10_scanSymbol (va_Pc (Value.ref x0 :: List.map gv []) (gPre D cy B H0 (gSt Z B H0) M)) (gQ D cy B H0 (some (vR r)) M1) 0 0 (gA B) := by
  refine Met.ofW (cc := cX10_scanSymbol) (maxL := 3) (ret := (some (.object "TideLots$Sign"))) (by decide) rfl ?_
  intro p e s m args below meth c s₁ Bd hml hv
  obtain ⟨rfl, hW, hKK, hFs⟩ := hv
  have X : gX p s m _ meth c D cy B (gSt Z B H0) RX10 cX10_scanSymbol wsX10_scanSymbol 3 := ⟨Bd.exec, Bd.bytes, atoms_spec (ws := wsX10_scanSymbol) Bd.pre, findClass_of_methodNamed Bd.named, hml, hKK, by rw [hW.1]; exact hW.2.1, Bd.notSynchronized, hFs⟩
  have hr := Bd.returns
  have hl := lv_entry ([.ref x0]) (n := 3) (Nat.le_of_ble_eq_true rfl)
  show W p l e rX10_scanSymbol s m _ below meth c s.heap [] 0 0 _ (entryFrame m ([.ref x0] : List Value).toArray 3)
  rw [lg_entry_eq]
  generalize (lg_sl ([.ref x0]) ++ List.replicate (3 - (lg_sl ([.ref x0])).length) Slot.unset).toArray = ls at hl ⊢
  have hl : lv_has ls 3 (List.map gq [(0, vR (some x0))]) := hl
  exact t_X10_scanSymbol_0 X hr _ _ _ hf rfl s.heap [] ls hW va_S.rf (lv_has_sub hl (lvsub_of _ _ [0] rfl))
/-! ## TideLots$Tape.scanWord(I)LTideLots$Sign; -/
theorem dX10_scanWord_0 : decode cX10_scanWord 0 = .ok (.aload_n 0, 1) := by decide +kernel
theorem dX10_scanWord_1 : decode cX10_scanWord 1 = .ok (.getfield 37, 3) := by decide +kernel
theorem dX10_scanWord_4 : decode cX10_scanWord 4 = .ok (.istore_n 2, 1) := by decide +kernel
theorem dX10_scanWord_5 : decode cX10_scanWord 5 = .ok (.lconst 0, 1) := by decide +kernel
theorem dX10_scanWord_6 : decode cX10_scanWord 6 = .ok (.lstore_n 3, 1) := by decide +kernel
theorem dX10_scanWord_7 : decode cX10_scanWord 7 = .ok (.aload_n 0, 1) := by decide +kernel
theorem dX10_scanWord_8 : decode cX10_scanWord 8 = .ok (.getfield 37, 3) := by decide +kernel
theorem dX10_scanWord_11 : decode cX10_scanWord 11 = .ok (.aload_n 0, 1) := by decide +kernel
theorem dX10_scanWord_12 : decode cX10_scanWord 12 = .ok (.getfield 33, 3) := by decide +kernel
theorem dX10_scanWord_15 : decode cX10_scanWord 15 = .ok (.if_icmp .ge 91, 3) := by decide +kernel
theorem dX10_scanWord_18 : decode cX10_scanWord 18 = .ok (.aload_n 0, 1) := by decide +kernel
theorem dX10_scanWord_19 : decode cX10_scanWord 19 = .ok (.aload_n 0, 1) := by decide +kernel
theorem dX10_scanWord_20 : decode cX10_scanWord 20 = .ok (.getfield 37, 3) := by decide +kernel
theorem dX10_scanWord_23 : decode cX10_scanWord 23 = .ok (.invokevirtual 54, 3) := by decide +kernel
theorem dX10_scanWord_26 : decode cX10_scanWord 26 = .ok (.ifCond .ne 14, 3) := by decide +kernel
theorem dX10_scanWord_29 : decode cX10_scanWord 29 = .ok (.aload_n 0, 1) := by decide +kernel
theorem dX10_scanWord_30 : decode cX10_scanWord 30 = .ok (.aload_n 0, 1) := by decide +kernel
theorem dX10_scanWord_31 : decode cX10_scanWord 31 = .ok (.getfield 37, 3) := by decide +kernel
theorem dX10_scanWord_34 : decode cX10_scanWord 34 = .ok (.invokevirtual 61, 3) := by decide +kernel
theorem dX10_scanWord_37 : decode cX10_scanWord 37 = .ok (.ifCond .eq 69, 3) := by decide +kernel
theorem dX10_scanWord_40 : decode cX10_scanWord 40 = .ok (.aload_n 0, 1) := by decide +kernel
theorem dX10_scanWord_41 : decode cX10_scanWord 41 = .ok (.aload_n 0, 1) := by decide +kernel
theorem dX10_scanWord_42 : decode cX10_scanWord 42 = .ok (.getfield 37, 3) := by decide +kernel
theorem dX10_scanWord_45 : decode cX10_scanWord 45 = .ok (.invokevirtual 54, 3) := by decide +kernel
theorem dX10_scanWord_48 : decode cX10_scanWord 48 = .ok (.ifCond .eq 20, 3) := by decide +kernel
theorem dX10_scanWord_51 : decode cX10_scanWord 51 = .ok (.aload_n 0, 1) := by decide +kernel
theorem dX10_scanWord_52 : decode cX10_scanWord 52 = .ok (.aload_n 0, 1) := by decide +kernel
theorem dX10_scanWord_53 : decode cX10_scanWord 53 = .ok (.getfield 37, 3) := by decide +kernel
theorem dX10_scanWord_56 : decode cX10_scanWord 56 = .ok (.invokevirtual 50, 3) := by decide +kernel
theorem dX10_scanWord_59 : decode cX10_scanWord 59 = .ok (.bipush 97, 2) := by decide +kernel
theorem dX10_scanWord_61 : decode cX10_scanWord 61 = .ok (.isub, 1) := by decide +kernel
theorem dX10_scanWord_62 : decode cX10_scanWord 62 = .ok (.bipush 11, 2) := by decide +kernel
theorem dX10_scanWord_64 : decode cX10_scanWord 64 = .ok (.iadd, 1) := by decide +kernel
theorem dX10_scanWord_65 : decode cX10_scanWord 65 = .ok (.goto 16, 3) := by decide +kernel
theorem dX10_scanWord_68 : decode cX10_scanWord 68 = .ok (.aload_n 0, 1) := by decide +kernel
theorem dX10_scanWord_69 : decode cX10_scanWord 69 = .ok (.aload_n 0, 1) := by decide +kernel
theorem dX10_scanWord_70 : decode cX10_scanWord 70 = .ok (.getfield 37, 3) := by decide +kernel
theorem dX10_scanWord_73 : decode cX10_scanWord 73 = .ok (.invokevirtual 50, 3) := by decide +kernel
theorem dX10_scanWord_76 : decode cX10_scanWord 76 = .ok (.bipush 48, 2) := by decide +kernel
theorem dX10_scanWord_78 : decode cX10_scanWord 78 = .ok (.isub, 1) := by decide +kernel
theorem dX10_scanWord_79 : decode cX10_scanWord 79 = .ok (.iconst 1, 1) := by decide +kernel
theorem dX10_scanWord_80 : decode cX10_scanWord 80 = .ok (.iadd, 1) := by decide +kernel
theorem dX10_scanWord_81 : decode cX10_scanWord 81 = .ok (.istore 5, 2) := by decide +kernel
theorem dX10_scanWord_83 : decode cX10_scanWord 83 = .ok (.lload_n 3, 1) := by decide +kernel
theorem dX10_scanWord_84 : decode cX10_scanWord 84 = .ok (.ldc2_w 71, 3) := by decide +kernel
theorem dX10_scanWord_87 : decode cX10_scanWord 87 = .ok (.lmul, 1) := by decide +kernel
theorem dX10_scanWord_88 : decode cX10_scanWord 88 = .ok (.iload 5, 2) := by decide +kernel
theorem dX10_scanWord_90 : decode cX10_scanWord 90 = .ok (.i2l, 1) := by decide +kernel
theorem dX10_scanWord_91 : decode cX10_scanWord 91 = .ok (.ladd, 1) := by decide +kernel
theorem dX10_scanWord_92 : decode cX10_scanWord 92 = .ok (.lstore_n 3, 1) := by decide +kernel
theorem dX10_scanWord_93 : decode cX10_scanWord 93 = .ok (.aload_n 0, 1) := by decide +kernel
theorem dX10_scanWord_94 : decode cX10_scanWord 94 = .ok (.dup, 1) := by decide +kernel
theorem dX10_scanWord_95 : decode cX10_scanWord 95 = .ok (.getfield 37, 3) := by decide +kernel
theorem dX10_scanWord_98 : decode cX10_scanWord 98 = .ok (.iconst 1, 1) := by decide +kernel
theorem dX10_scanWord_99 : decode cX10_scanWord 99 = .ok (.iadd, 1) := by decide +kernel
theorem dX10_scanWord_100 : decode cX10_scanWord 100 = .ok (.putfield 37, 3) := by decide +kernel
theorem dX10_scanWord_103 : decode cX10_scanWord 103 = .ok (.goto (-96), 3) := by decide +kernel
theorem dX10_scanWord_106 : decode cX10_scanWord 106 = .ok (.aload_n 0, 1) := by decide +kernel
theorem dX10_scanWord_107 : decode cX10_scanWord 107 = .ok (.getfield 25, 3) := by decide +kernel
theorem dX10_scanWord_110 : decode cX10_scanWord 110 = .ok (.iload_n 1, 1) := by decide +kernel
theorem dX10_scanWord_111 : decode cX10_scanWord 111 = .ok (.lload_n 3, 1) := by decide +kernel
theorem dX10_scanWord_112 : decode cX10_scanWord 112 = .ok (.lastore, 1) := by decide +kernel
theorem dX10_scanWord_113 : decode cX10_scanWord 113 = .ok (.aload_n 0, 1) := by decide +kernel
theorem dX10_scanWord_114 : decode cX10_scanWord 114 = .ok (.getfield 37, 3) := by decide +kernel
theorem dX10_scanWord_117 : decode cX10_scanWord 117 = .ok (.iload_n 2, 1) := by decide +kernel
theorem dX10_scanWord_118 : decode cX10_scanWord 118 = .ok (.isub, 1) := by decide +kernel
theorem dX10_scanWord_119 : decode cX10_scanWord 119 = .ok (.bipush 10, 2) := by decide +kernel
theorem dX10_scanWord_121 : decode cX10_scanWord 121 = .ok (.if_icmp .le 9, 3) := by decide +kernel
theorem dX10_scanWord_124 : decode cX10_scanWord 124 = .ok (.getstatic 47, 3) := by decide +kernel
theorem dX10_scanWord_127 : decode cX10_scanWord 127 = .ok (.goto 17, 3) := by decide +kernel
theorem dX10_scanWord_130 : decode cX10_scanWord 130 = .ok (.aload_n 0, 1) := by decide +kernel
theorem dX10_scanWord_131 : decode cX10_scanWord 131 = .ok (.iload_n 2, 1) := by decide +kernel
theorem dX10_scanWord_132 : decode cX10_scanWord 132 = .ok (.aload_n 0, 1) := by decide +kernel
theorem dX10_scanWord_133 : decode cX10_scanWord 133 = .ok (.getfield 37, 3) := by decide +kernel
theorem dX10_scanWord_136 : decode cX10_scanWord 136 = .ok (.iload_n 2, 1) := by decide +kernel
theorem dX10_scanWord_137 : decode cX10_scanWord 137 = .ok (.isub, 1) := by decide +kernel
theorem dX10_scanWord_138 : decode cX10_scanWord 138 = .ok (.getstatic 73, 3) := by decide +kernel
theorem dX10_scanWord_141 : decode cX10_scanWord 141 = .ok (.invokevirtual 76, 3) := by decide +kernel
theorem dX10_scanWord_144 : decode cX10_scanWord 144 = .ok (.areturn, 1) := by decide +kernel
set_option maxRecDepth 20000 in
theorem ggX10_scanWord_X10_signOf : GoodIn wsX10_scanWord wsX10_signOf := goodIn_r _ [24, 25, 26, 27, 28, 10, 29, 30, 31, 32, 33, 34, 35, 36, 37, 38, 39, 40, 41, 12, 13, 14, 15, 2, 16, 42, 43, 44, 45, 46, 47, 48, 49, 50, 51, 52, 53, 54, 55, 56, 57, 58, 59, 60, 61, 62, 63, 64, 65, 66, 67, 68, 69, 70, 71, 72, 73, 74, 75, 76, 77, 78, 85, 86, 87, 88, 79, 80, 81, 82, 83, 84] (by decide +kernel) (by decide +kernel)
set_option maxRecDepth 20000 in
theorem gX10_scanWord_X10_signOf : GoodIn wsX10_scanWord (wsV RX10 76 RX10 yX10_signOf wsX10_signOf) := goodIn_app (goodIn_of _ (by decide +kernel)) ggX10_scanWord_X10_signOf
set_option maxRecDepth 20000 in
theorem ggX10_scanWord_X10_isLetter : GoodIn wsX10_scanWord wsX10_isLetter := goodIn_r _ [11, 12, 13, 14, 10, 15, 2, 16, 79, 80, 81, 82, 83, 84] (by decide +kernel) (by decide +kernel)
set_option maxRecDepth 20000 in
theorem gX10_scanWord_X10_isLetter : GoodIn wsX10_scanWord (wsV RX10 54 RX10 yX10_isLetter wsX10_isLetter) := goodIn_app (goodIn_of _ (by decide +kernel)) ggX10_scanWord_X10_isLetter
set_option maxRecDepth 20000 in
theorem ggX10_scanWord_X10_at : GoodIn wsX10_scanWord wsX10_at := goodIn_r _ [15, 2, 16, 79, 80, 81, 82, 83, 84] (by decide +kernel) (by decide +kernel)
set_option maxRecDepth 20000 in
theorem gX10_scanWord_X10_at : GoodIn wsX10_scanWord (wsV RX10 50 RX10 yX10_at wsX10_at) := goodIn_app (goodIn_of _ (by decide +kernel)) ggX10_scanWord_X10_at
set_option maxRecDepth 20000 in
theorem ggX10_scanWord_X10_isDigit : GoodIn wsX10_scanWord wsX10_isDigit := goodIn_r _ [20, 12, 13, 14, 10, 15, 2, 16, 79, 80, 81, 82, 83, 84] (by decide +kernel) (by decide +kernel)
set_option maxRecDepth 20000 in
theorem gX10_scanWord_X10_isDigit : GoodIn wsX10_scanWord (wsV RX10 61 RX10 yX10_isDigit wsX10_isDigit) := goodIn_app (goodIn_of _ (by decide +kernel)) ggX10_scanWord_X10_isDigit
theorem k_X10_scanWord_f25 : Cond.fieldLink RX10 25 "TideLots$Tape" "values" "[J" ∈ wsX10_scanWord := by decide +kernel
theorem i_X10_scanWord_X10 : ∀ w ∈ u_ws RX10 TX10 6, w ∈ wsX10_scanWord := by decide +kernel
theorem k_X10_scanWord_f37 : Cond.fieldLink RX10 37 "TideLots$Tape" "end" "I" ∈ wsX10_scanWord := by decide +kernel
theorem k_X10_scanWord_f73 : Cond.fieldLink RX10 73 "TideLots$Sign" "NAME" "LTideLots$Sign;" ∈ wsX10_scanWord := by decide +kernel
theorem k_X10_scanWord_f47 : Cond.fieldLink RX10 47 "TideLots$Sign" "NO_TOKEN" "LTideLots$Sign;" ∈ wsX10_scanWord := by decide +kernel
theorem k_X10_scanWord_c71 : Jvm.Cond.constantLong RX10 71 (37) ∈ wsX10_scanWord := by decide +kernel
theorem k_X10_scanWord_f33 : Cond.fieldLink RX10 33 "TideLots$Tape" "length" "I" ∈ wsX10_scanWord := by decide +kernel
abbrev rX10_scanWord : Room := { frames := 6, cells := 0, slots := 0, locals := 136 }
noncomputable def b_X10_scanWord_144 (Z : Nat → Nat) (M : gMem) (s0 : Option Nat) : Option (Option Nat × gMem) :=
  some (s0, M)
noncomputable def b_X10_scanWord_106 (Z : Nat → Nat) (M : gMem) (x0 : Nat) (x1 : Int32) (x2 : Int32) (x3 : Int64) : Option (Option Nat × gMem) :=
  ck (mT M x0 = 9) <| dr ((mR M x0 4)) fun a2 => ck (mT M a2 = 21) <| ck (inb x1 (mL M a2)) <| lw (wJ M a2 x1.toNatClampNeg x3) fun M5 => (if ((mI M5 x0 5) - x2) ≤ (10 : Int32) then bd (f_X10_signOf Z M5 x0 x2 (((mI M5 x0 5) - x2)) ((some (Z 40)))) fun r8 M8 => b_X10_scanWord_144 Z M8 r8 else b_X10_scanWord_144 Z M5 ((some (Z 43))))
noncomputable def b_X10_scanWord_81 (Z : Nat → Nat) (M : gMem) (x0 : Nat) (x1 : Int32) (x2 : Int32) (x3 : Int64) (s0 : Int32) : Option ((gMem × Int64) ⊕ (Option Nat × gMem)) :=
  ck (mT M x0 = 9) <| lw (wI M x0 5 (((mI M x0 5) + (1 : Int32)))) fun M10 => some (.inl (M10, ((x3 * (37 : Int64)) + (Int32.toInt64 s0))))
noncomputable def b_X10_scanWord_40 (Z : Nat → Nat) (M : gMem) (x0 : Nat) (x1 : Int32) (x2 : Int32) (x3 : Int64) : Option ((gMem × Int64) ⊕ (Option Nat × gMem)) :=
  ck (mT M x0 = 9) <| bd (f_X10_isLetter M x0 ((mI M x0 5))) fun r13 M13 => (if r13 = 0 then ck (mT M13 x0 = 9) <| bd (f_X10_at M13 x0 ((mI M13 x0 5))) fun r15 M15 => b_X10_scanWord_81 Z M15 x0 x1 x2 x3 (((r15 - (48 : Int32)) + (1 : Int32))) else ck (mT M13 x0 = 9) <| bd (f_X10_at M13 x0 ((mI M13 x0 5))) fun r17 M17 => b_X10_scanWord_81 Z M17 x0 x1 x2 x3 (((r17 - (97 : Int32)) + (11 : Int32))))
noncomputable def bb_X10_scanWord_7 (Z : Nat → Nat) (M : gMem) (x0 : Nat) (x1 : Int32) (x2 : Int32) (x3 : Int64) : Option ((gMem × Int64) ⊕ (Option Nat × gMem)) :=
  ck (mT M x0 = 9) <| (if (mI M x0 0) ≤ (mI M x0 5) then oI (b_X10_scanWord_106 Z M x0 x1 x2 x3) else bd (f_X10_isLetter M x0 ((mI M x0 5))) fun r20 M20 => (if r20 = 0 then ck (mT M20 x0 = 9) <| bd (f_X10_isDigit M20 x0 ((mI M20 x0 5))) fun r22 M22 => (if r22 = 0 then oI (b_X10_scanWord_106 Z M22 x0 x1 x2 x3) else b_X10_scanWord_40 Z M22 x0 x1 x2 x3) else b_X10_scanWord_40 Z M20 x0 x1 x2 x3))
noncomputable def lp_X10_scanWord_7 (Z : Nat → Nat) (M : gMem) (x0 : Nat) (x1 : Int32) (x2 : Int32) (x3 : Int64) : Option (Option Nat × gMem) :=
  lp (fun (q : gMem × Int64) => bb_X10_scanWord_7 Z q.1 x0 x1 x2 q.2) (M, x3)
noncomputable def b_X10_scanWord_0 (Z : Nat → Nat) (M : gMem) (x0 : Nat) (x1 : Int32) : Option (Option Nat × gMem) :=
  ck (mT M x0 = 9) <| lp_X10_scanWord_7 Z M x0 x1 ((mI M x0 5)) ((0 : Int64))
noncomputable def f_X10_scanWord (Z : Nat → Nat) (M : gMem) (x0 : Nat) (x1 : Int32) : Option (Option Nat × gMem) :=
  b_X10_scanWord_0 Z M x0 x1
set_option maxHeartbeats 4000000 in
set_option maxRecDepth 100000 in
theorem t_X10_scanWord_144 (X : gX p s m args meth c D cy B (gSt Z B H0) RX10 cX10_scanWord wsX10_scanWord 6) (hr : meth.sig.returnType = (some (.object "TideLots$Sign"))) {Q : State → Prop} : ∀ (M : gMem) (s0 : Option Nat) (z : Option Nat × gMem), b_X10_scanWord_144 Z M s0 = some z → (fun (r : Option Nat × gMem) => Q = gMQ below D cy B H0 args s 0 0 (some (vR r.1)) r.2) z → gGo p l e rX10_scanWord s m args below meth c D cy B H0 6 0 0 Q 144 [] [vR s0] M := by
  intro M s0 z hf hK
  unfold b_X10_scanWord_144 at hf
  cases hf
  refine g_eqQ hK ?_
  exact g_aret X hr (Or.inl ⟨_, rfl⟩) dX10_scanWord_144
set_option maxHeartbeats 4000000 in
set_option maxRecDepth 100000 in
theorem t_X10_scanWord_106 (X : gX p s m args meth c D cy B (gSt Z B H0) RX10 cX10_scanWord wsX10_scanWord 6) (hr : meth.sig.returnType = (some (.object "TideLots$Sign"))) {Q : State → Prop} : ∀ (M : gMem) (x0 : Nat) (x1 : Int32) (x2 : Int32) (x3 : Int64) (z : Option Nat × gMem), b_X10_scanWord_106 Z M x0 x1 x2 x3 = some z → (fun (r : Option Nat × gMem) => Q = gMQ below D cy B H0 args s 0 0 (some (vR r.1)) r.2) z → gGo p l e rX10_scanWord s m args below meth c D cy B H0 6 0 0 Q 106 [(0, vR (some x0)), (1, vI x1), (2, vI x2), (3, vJ x3)] [] M := by
  intro M x0 x1 x2 x3 z hf hK
  unfold b_X10_scanWord_106 at hf
  refine g_aload_n X dX10_scanWord_106 rfl rfl ?_
  obtain ⟨hT1, hf⟩ := ck_e hf
  refine g_get (ci := 8) (v := vR (mR M x0 4)) 4 X cdX10 i_X10_scanWord_X10 (by decide) k_X10_scanWord_f25 rfl dX10_scanWord_107 rfl hT1 rfl ?_
  refine g_iload_n X dX10_scanWord_110 rfl rfl ?_
  refine g_lload_n X dX10_scanWord_111 rfl rfl ?_
  obtain ⟨a2, ha2, hf⟩ := dr_e hf
  obtain ⟨hT3, hf⟩ := ck_e hf
  obtain ⟨hg4, hf⟩ := ck_e hf
  refine g_last X dX10_scanWord_112 ha2 hT3 hg4 ?_
  obtain ⟨M5, hM5, hf⟩ := lw_e hf
  rw [← hM5]
  have hT6 : mT M5 x0 = 9 := by rw [hM5]; exact hT1
  have hT7 : mT M5 a2 = 21 := by rw [hM5]; exact hT3
  refine g_aload_n X dX10_scanWord_113 rfl rfl ?_
  refine g_get (ci := 8) (v := vI (mI M5 x0 5)) 5 X cdX10 i_X10_scanWord_X10 (by decide) k_X10_scanWord_f37 rfl dX10_scanWord_114 rfl hT6 rfl ?_
  refine g_iload_n X dX10_scanWord_117 rfl rfl ?_
  refine g_isub X dX10_scanWord_118 ?_
  refine g_bipush (v := (10 : Int32)) X dX10_scanWord_119 (by decide) ?_
  refine g_icmp_le (tgt := 130) X dX10_scanWord_121 (by decide) (fun hc => ?_) (fun hc => ?_)
  · have hf := ife_t hc hf
    refine g_aload_n X dX10_scanWord_130 rfl rfl ?_
    refine g_iload_n X dX10_scanWord_131 rfl rfl ?_
    refine g_aload_n X dX10_scanWord_132 rfl rfl ?_
    refine g_get (ci := 8) (v := vI (mI M5 x0 5)) 5 X cdX10 i_X10_scanWord_X10 (by decide) k_X10_scanWord_f37 rfl dX10_scanWord_133 rfl hT6 rfl ?_
    refine g_iload_n X dX10_scanWord_136 rfl rfl ?_
    refine g_isub X dX10_scanWord_137 ?_
    refine g_gets (w := vR (some (Z 40))) X (gSt_E X 40 (by decide)) k_X10_scanWord_f73 rfl dX10_scanWord_138 ?_
    obtain ⟨r8, M8, hq8, hf⟩ := bd_e hf
    refine g_callV (ci := 8) (b := x0) (As := [vI x2, vI ((mI M5 x0 5) - x2), vR (some (Z 40))]) (st := []) (v := some (vR r8)) (M1 := M8) X (m_X10_signOf l hq8) (cwV 3 X.2.2.1 gX10_scanWord_X10_signOf rfl rfl rfl (by decide +kernel) ⟨Nat.le_of_ble_eq_true rfl, Nat.le_of_ble_eq_true rfl⟩) rfl rfl rfl hT6 (by decide) rfl (Nat.le_of_ble_eq_true rfl) dX10_scanWord_141 ⟨by decide, by decide⟩ ?_
    refine g_sub (lvsub_of _ _ [] rfl) ?_
    exact t_X10_scanWord_144 X hr _ _ _ hf hK
  · have hf := ife_f hc hf
    refine g_gets (w := vR (some (Z 43))) X (gSt_E X 43 (by decide)) k_X10_scanWord_f47 rfl dX10_scanWord_124 ?_
    refine g_goto (tgt := 144) X dX10_scanWord_127 (by decide) ?_
    refine g_sub (lvsub_of _ _ [] rfl) ?_
    exact t_X10_scanWord_144 X hr _ _ _ hf hK
set_option maxHeartbeats 4000000 in
set_option maxRecDepth 100000 in
theorem t_X10_scanWord_81 (X : gX p s m args meth c D cy B (gSt Z B H0) RX10 cX10_scanWord wsX10_scanWord 6) (hr : meth.sig.returnType = (some (.object "TideLots$Sign"))) {Q : State → Prop} : ∀ (M : gMem) (x0 : Nat) (x1 : Int32) (x2 : Int32) (x3 : Int64) (s0 : Int32) (z : (gMem × Int64) ⊕ (Option Nat × gMem)), b_X10_scanWord_81 Z M x0 x1 x2 x3 s0 = some z → (Sum.elim (fun (q : gMem × Int64) => gGo p l e rX10_scanWord s m args below meth c D cy B H0 6 0 0 Q 7 [(0, vR (some x0)), (1, vI x1), (2, vI x2), (3, vJ q.2)] [] q.1) (fun (r : Option Nat × gMem) => Q = gMQ below D cy B H0 args s 0 0 (some (vR r.1)) r.2)) z → gGo p l e rX10_scanWord s m args below meth c D cy B H0 6 0 0 Q 81 [(0, vR (some x0)), (1, vI x1), (2, vI x2), (3, vJ x3)] [vI s0] M := by
  intro M x0 x1 x2 x3 s0 z hf hK
  unfold b_X10_scanWord_81 at hf
  refine g_istore (lv' := [(5, vI s0), (0, vR (some x0)), (1, vI x1), (2, vI x2), (3, vJ x3)]) X dX10_scanWord_81 (by decide) rfl ?_
  refine g_lload_n X dX10_scanWord_83 rfl rfl ?_
  refine g_ldc2 (v := (37 : Int64)) X k_X10_scanWord_c71 dX10_scanWord_84 ?_
  refine g_lmul X dX10_scanWord_87 ?_
  refine g_iload X dX10_scanWord_88 rfl ?_
  refine g_i2l X dX10_scanWord_90 ?_
  refine g_ladd X dX10_scanWord_91 ?_
  refine g_lstore_n (lv' := [(3, vJ ((x3 * (37 : Int64)) + (Int32.toInt64 s0))), (5, vI s0), (0, vR (some x0)), (1, vI x1), (2, vI x2)]) X dX10_scanWord_92 rfl (by decide) rfl ?_
  refine g_aload_n X dX10_scanWord_93 rfl rfl ?_
  refine g_dup X dX10_scanWord_94 rfl ?_
  obtain ⟨hT9, hf⟩ := ck_e hf
  refine g_get (ci := 8) (v := vI (mI M x0 5)) 5 X cdX10 i_X10_scanWord_X10 (by decide) k_X10_scanWord_f37 rfl dX10_scanWord_95 rfl hT9 rfl ?_
  refine g_iconst (v := (1 : Int32)) X dX10_scanWord_98 (by decide) ?_
  refine g_iadd X dX10_scanWord_99 ?_
  refine g_putI (ci := 8) 5 X cdX10 i_X10_scanWord_X10 (by decide) k_X10_scanWord_f37 rfl dX10_scanWord_100 rfl hT9 (Or.inl rfl) rfl rfl rfl ?_
  obtain ⟨M10, hM10, hf⟩ := lw_e hf
  rw [← hM10]
  have hT11 : mT M10 x0 = 9 := by rw [hM10]; exact hT9
  refine g_goto (tgt := 7) X dX10_scanWord_103 (by decide) ?_
  cases hf
  refine g_sub (lvsub_of _ _ [2, 3, 4, 0] rfl) ?_
  exact hK
set_option maxHeartbeats 4000000 in
set_option maxRecDepth 100000 in
theorem t_X10_scanWord_40 (X : gX p s m args meth c D cy B (gSt Z B H0) RX10 cX10_scanWord wsX10_scanWord 6) (hr : meth.sig.returnType = (some (.object "TideLots$Sign"))) {Q : State → Prop} : ∀ (M : gMem) (x0 : Nat) (x1 : Int32) (x2 : Int32) (x3 : Int64) (z : (gMem × Int64) ⊕ (Option Nat × gMem)), b_X10_scanWord_40 Z M x0 x1 x2 x3 = some z → (Sum.elim (fun (q : gMem × Int64) => gGo p l e rX10_scanWord s m args below meth c D cy B H0 6 0 0 Q 7 [(0, vR (some x0)), (1, vI x1), (2, vI x2), (3, vJ q.2)] [] q.1) (fun (r : Option Nat × gMem) => Q = gMQ below D cy B H0 args s 0 0 (some (vR r.1)) r.2)) z → gGo p l e rX10_scanWord s m args below meth c D cy B H0 6 0 0 Q 40 [(0, vR (some x0)), (1, vI x1), (2, vI x2), (3, vJ x3)] [] M := by
  intro M x0 x1 x2 x3 z hf hK
  unfold b_X10_scanWord_40 at hf
  refine g_aload_n X dX10_scanWord_40 rfl rfl ?_
  refine g_aload_n X dX10_scanWord_41 rfl rfl ?_
  obtain ⟨hT12, hf⟩ := ck_e hf
  refine g_get (ci := 8) (v := vI (mI M x0 5)) 5 X cdX10 i_X10_scanWord_X10 (by decide) k_X10_scanWord_f37 rfl dX10_scanWord_42 rfl hT12 rfl ?_
  obtain ⟨r13, M13, hq13, hf⟩ := bd_e hf
  refine g_callV (ci := 8) (b := x0) (As := [vI (mI M x0 5)]) (st := []) (v := some (vI r13)) (M1 := M13) X (m_X10_isLetter l hq13) (cwV 1 X.2.2.1 gX10_scanWord_X10_isLetter rfl rfl rfl (by decide +kernel) ⟨Nat.le_of_ble_eq_true rfl, Nat.le_of_ble_eq_true rfl⟩) rfl rfl rfl hT12 (by decide) rfl (Nat.le_of_ble_eq_true rfl) dX10_scanWord_45 ⟨by decide, by decide⟩ ?_
  refine g_if_eq (tgt := 68) X dX10_scanWord_48 (by decide) (fun hc => ?_) (fun hc => ?_)
  · have hf := ife_t hc hf
    refine g_aload_n X dX10_scanWord_68 rfl rfl ?_
    refine g_aload_n X dX10_scanWord_69 rfl rfl ?_
    obtain ⟨hT14, hf⟩ := ck_e hf
    refine g_get (ci := 8) (v := vI (mI M13 x0 5)) 5 X cdX10 i_X10_scanWord_X10 (by decide) k_X10_scanWord_f37 rfl dX10_scanWord_70 rfl hT14 rfl ?_
    obtain ⟨r15, M15, hq15, hf⟩ := bd_e hf
    refine g_callV (ci := 8) (b := x0) (As := [vI (mI M13 x0 5)]) (st := []) (v := some (vI r15)) (M1 := M15) X (m_X10_at l hq15) (cwV 1 X.2.2.1 gX10_scanWord_X10_at rfl rfl rfl (by decide +kernel) ⟨Nat.le_of_ble_eq_true rfl, Nat.le_of_ble_eq_true rfl⟩) rfl rfl rfl hT14 (by decide) rfl (Nat.le_of_ble_eq_true rfl) dX10_scanWord_73 ⟨by decide, by decide⟩ ?_
    refine g_bipush (v := (48 : Int32)) X dX10_scanWord_76 (by decide) ?_
    refine g_isub X dX10_scanWord_78 ?_
    refine g_iconst (v := (1 : Int32)) X dX10_scanWord_79 (by decide) ?_
    refine g_iadd X dX10_scanWord_80 ?_
    refine g_sub (lvsub_of _ _ [0, 1, 2, 3] rfl) ?_
    exact t_X10_scanWord_81 X hr _ _ _ _ _ _ _ hf hK
  · have hf := ife_f hc hf
    refine g_aload_n X dX10_scanWord_51 rfl rfl ?_
    refine g_aload_n X dX10_scanWord_52 rfl rfl ?_
    obtain ⟨hT16, hf⟩ := ck_e hf
    refine g_get (ci := 8) (v := vI (mI M13 x0 5)) 5 X cdX10 i_X10_scanWord_X10 (by decide) k_X10_scanWord_f37 rfl dX10_scanWord_53 rfl hT16 rfl ?_
    obtain ⟨r17, M17, hq17, hf⟩ := bd_e hf
    refine g_callV (ci := 8) (b := x0) (As := [vI (mI M13 x0 5)]) (st := []) (v := some (vI r17)) (M1 := M17) X (m_X10_at l hq17) (cwV 1 X.2.2.1 gX10_scanWord_X10_at rfl rfl rfl (by decide +kernel) ⟨Nat.le_of_ble_eq_true rfl, Nat.le_of_ble_eq_true rfl⟩) rfl rfl rfl hT16 (by decide) rfl (Nat.le_of_ble_eq_true rfl) dX10_scanWord_56 ⟨by decide, by decide⟩ ?_
    refine g_bipush (v := (97 : Int32)) X dX10_scanWord_59 (by decide) ?_
    refine g_isub X dX10_scanWord_61 ?_
    refine g_bipush (v := (11 : Int32)) X dX10_scanWord_62 (by decide) ?_
    refine g_iadd X dX10_scanWord_64 ?_
    refine g_goto (tgt := 81) X dX10_scanWord_65 (by decide) ?_
    refine g_sub (lvsub_of _ _ [0, 1, 2, 3] rfl) ?_
    exact t_X10_scanWord_81 X hr _ _ _ _ _ _ _ hf hK
set_option maxHeartbeats 4000000 in
set_option maxRecDepth 100000 in
theorem tb_X10_scanWord_7 (X : gX p s m args meth c D cy B (gSt Z B H0) RX10 cX10_scanWord wsX10_scanWord 6) (hr : meth.sig.returnType = (some (.object "TideLots$Sign"))) {Q : State → Prop} : ∀ (M : gMem) (x0 : Nat) (x1 : Int32) (x2 : Int32) (x3 : Int64) (z : (gMem × Int64) ⊕ (Option Nat × gMem)), bb_X10_scanWord_7 Z M x0 x1 x2 x3 = some z → (Sum.elim (fun (q : gMem × Int64) => gGo p l e rX10_scanWord s m args below meth c D cy B H0 6 0 0 Q 7 [(0, vR (some x0)), (1, vI x1), (2, vI x2), (3, vJ q.2)] [] q.1) (fun (r : Option Nat × gMem) => Q = gMQ below D cy B H0 args s 0 0 (some (vR r.1)) r.2)) z → gGo p l e rX10_scanWord s m args below meth c D cy B H0 6 0 0 Q 7 [(0, vR (some x0)), (1, vI x1), (2, vI x2), (3, vJ x3)] [] M := by
  intro M x0 x1 x2 x3 z hf hK
  unfold bb_X10_scanWord_7 at hf
  refine g_aload_n X dX10_scanWord_7 rfl rfl ?_
  obtain ⟨hT18, hf⟩ := ck_e hf
  refine g_get (ci := 8) (v := vI (mI M x0 5)) 5 X cdX10 i_X10_scanWord_X10 (by decide) k_X10_scanWord_f37 rfl dX10_scanWord_8 rfl hT18 rfl ?_
  refine g_aload_n X dX10_scanWord_11 rfl rfl ?_
  refine g_get (ci := 8) (v := vI (mI M x0 0)) 0 X cdX10 i_X10_scanWord_X10 (by decide) k_X10_scanWord_f33 rfl dX10_scanWord_12 rfl hT18 rfl ?_
  refine g_icmp_ge (tgt := 106) X dX10_scanWord_15 (by decide) (fun hc => ?_) (fun hc => ?_)
  · have hf := ife_t hc hf
    obtain ⟨w19, hw19, hz19⟩ := oI_e hf
    subst hz19
    have hf := hw19
    refine g_sub (lvsub_of _ _ [0, 1, 2, 3] rfl) ?_
    exact t_X10_scanWord_106 X hr _ _ _ _ _ _ hf hK
  · have hf := ife_f hc hf
    refine g_aload_n X dX10_scanWord_18 rfl rfl ?_
    refine g_aload_n X dX10_scanWord_19 rfl rfl ?_
    refine g_get (ci := 8) (v := vI (mI M x0 5)) 5 X cdX10 i_X10_scanWord_X10 (by decide) k_X10_scanWord_f37 rfl dX10_scanWord_20 rfl hT18 rfl ?_
    obtain ⟨r20, M20, hq20, hf⟩ := bd_e hf
    refine g_callV (ci := 8) (b := x0) (As := [vI (mI M x0 5)]) (st := []) (v := some (vI r20)) (M1 := M20) X (m_X10_isLetter l hq20) (cwV 1 X.2.2.1 gX10_scanWord_X10_isLetter rfl rfl rfl (by decide +kernel) ⟨Nat.le_of_ble_eq_true rfl, Nat.le_of_ble_eq_true rfl⟩) rfl rfl rfl hT18 (by decide) rfl (Nat.le_of_ble_eq_true rfl) dX10_scanWord_23 ⟨by decide, by decide⟩ ?_
    refine g_if_ne (tgt := 40) X dX10_scanWord_26 (by decide) (fun hc => ?_) (fun hc => ?_)
    · have hf := ife_f hc hf
      refine g_sub (lvsub_of _ _ [0, 1, 2, 3] rfl) ?_
      exact t_X10_scanWord_40 X hr _ _ _ _ _ _ hf hK
    · have hf := ife_t hc hf
      refine g_aload_n X dX10_scanWord_29 rfl rfl ?_
      refine g_aload_n X dX10_scanWord_30 rfl rfl ?_
      obtain ⟨hT21, hf⟩ := ck_e hf
      refine g_get (ci := 8) (v := vI (mI M20 x0 5)) 5 X cdX10 i_X10_scanWord_X10 (by decide) k_X10_scanWord_f37 rfl dX10_scanWord_31 rfl hT21 rfl ?_
      obtain ⟨r22, M22, hq22, hf⟩ := bd_e hf
      refine g_callV (ci := 8) (b := x0) (As := [vI (mI M20 x0 5)]) (st := []) (v := some (vI r22)) (M1 := M22) X (m_X10_isDigit l hq22) (cwV 1 X.2.2.1 gX10_scanWord_X10_isDigit rfl rfl rfl (by decide +kernel) ⟨Nat.le_of_ble_eq_true rfl, Nat.le_of_ble_eq_true rfl⟩) rfl rfl rfl hT21 (by decide) rfl (Nat.le_of_ble_eq_true rfl) dX10_scanWord_34 ⟨by decide, by decide⟩ ?_
      refine g_if_eq (tgt := 106) X dX10_scanWord_37 (by decide) (fun hc => ?_) (fun hc => ?_)
      · have hf := ife_t hc hf
        obtain ⟨w23, hw23, hz23⟩ := oI_e hf
        subst hz23
        have hf := hw23
        refine g_sub (lvsub_of _ _ [0, 1, 2, 3] rfl) ?_
        exact t_X10_scanWord_106 X hr _ _ _ _ _ _ hf hK
      · have hf := ife_f hc hf
        refine g_sub (lvsub_of _ _ [0, 1, 2, 3] rfl) ?_
        exact t_X10_scanWord_40 X hr _ _ _ _ _ _ hf hK
set_option maxHeartbeats 4000000 in
set_option maxRecDepth 100000 in
theorem tl_X10_scanWord_7 (X : gX p s m args meth c D cy B (gSt Z B H0) RX10 cX10_scanWord wsX10_scanWord 6) (hr : meth.sig.returnType = (some (.object "TideLots$Sign"))) {Q : State → Prop} : ∀ (M : gMem) (x0 : Nat) (x1 : Int32) (x2 : Int32) (x3 : Int64) (z : Option Nat × gMem), lp_X10_scanWord_7 Z M x0 x1 x2 x3 = some z → (fun (r : Option Nat × gMem) => Q = gMQ below D cy B H0 args s 0 0 (some (vR r.1)) r.2) z → gGo p l e rX10_scanWord s m args below meth c D cy B H0 6 0 0 Q 7 [(0, vR (some x0)), (1, vI x1), (2, vI x2), (3, vJ x3)] [] M := by
  intro M x0 x1 x2 x3 z hf hK
  refine lp_ind (P := (fun (q : gMem × Int64) (z : Option Nat × gMem) => (fun (r : Option Nat × gMem) => Q = gMQ below D cy B H0 args s 0 0 (some (vR r.1)) r.2) z → gGo p l e rX10_scanWord s m args below meth c D cy B H0 6 0 0 Q 7 [(0, vR (some x0)), (1, vI x1), (2, vI x2), (3, vJ q.2)] [] q.1)) (fun q z hq => ?_) _ _ hf hK
  intro hK
  obtain ⟨w, hw, hm⟩ := hq
  refine tb_X10_scanWord_7 X hr _ _ _ _ _ w hw ?_
  cases w with
  | inl a => exact hm hK
  | inr b => cases hm; exact hK
set_option maxHeartbeats 4000000 in
set_option maxRecDepth 100000 in
theorem t_X10_scanWord_0 (X : gX p s m args meth c D cy B (gSt Z B H0) RX10 cX10_scanWord wsX10_scanWord 6) (hr : meth.sig.returnType = (some (.object "TideLots$Sign"))) {Q : State → Prop} : ∀ (M : gMem) (x0 : Nat) (x1 : Int32) (z : Option Nat × gMem), b_X10_scanWord_0 Z M x0 x1 = some z → (fun (r : Option Nat × gMem) => Q = gMQ below D cy B H0 args s 0 0 (some (vR r.1)) r.2) z → gGo p l e rX10_scanWord s m args below meth c D cy B H0 6 0 0 Q 0 [(0, vR (some x0)), (1, vI x1)] [] M := by
  intro M x0 x1 z hf hK
  unfold b_X10_scanWord_0 at hf
  refine g_aload_n X dX10_scanWord_0 rfl rfl ?_
  obtain ⟨hT24, hf⟩ := ck_e hf
  refine g_get (ci := 8) (v := vI (mI M x0 5)) 5 X cdX10 i_X10_scanWord_X10 (by decide) k_X10_scanWord_f37 rfl dX10_scanWord_1 rfl hT24 rfl ?_
  refine g_istore_n (lv' := [(2, vI (mI M x0 5)), (0, vR (some x0)), (1, vI x1)]) X dX10_scanWord_4 rfl (by decide) rfl ?_
  refine g_lconst (v := (0 : Int64)) X dX10_scanWord_5 (by decide) ?_
  refine g_lstore_n (lv' := [(3, vJ (0 : Int64)), (2, vI (mI M x0 5)), (0, vR (some x0)), (1, vI x1)]) X dX10_scanWord_6 rfl (by decide) rfl ?_
  refine g_sub (lvsub_of _ _ [2, 3, 1, 0] rfl) ?_
  exact tl_X10_scanWord_7 X hr _ _ _ _ _ _ hf hK
set_option maxHeartbeats 4000000 in
set_option maxRecDepth 100000 in
theorem m_X10_scanWord (l : Launch) {D : va_G} {cy : Nat → ClassId} {B : Nat} {H0 : Heap} {Z : Nat → Nat} {M M1 : gMem} {x0 : Nat} {x1 : Int32} {r : Option Nat} (hf : f_X10_scanWord Z M x0 x1 = some (r, M1)) : Met l yX10_scanWord wsX10_scanWord rX10_scanWord (va_Pc (Value.ref x0 :: List.map gv [vI x1]) (gPre D cy B H0 (gSt Z B H0) M)) (gQ D cy B H0 (some (vR r)) M1) 0 0 (gA B) := by
  refine Met.ofW (cc := cX10_scanWord) (maxL := 6) (ret := (some (.object "TideLots$Sign"))) (by decide) rfl ?_
  intro p e s m args below meth c s₁ Bd hml hv
  obtain ⟨rfl, hW, hKK, hFs⟩ := hv
  have X : gX p s m _ meth c D cy B (gSt Z B H0) RX10 cX10_scanWord wsX10_scanWord 6 := ⟨Bd.exec, Bd.bytes, atoms_spec (ws := wsX10_scanWord) Bd.pre, findClass_of_methodNamed Bd.named, hml, hKK, by rw [hW.1]; exact hW.2.1, Bd.notSynchronized, hFs⟩
  have hr := Bd.returns
  have hl := lv_entry ([.ref x0, .int x1]) (n := 6) (Nat.le_of_ble_eq_true rfl)
  show W p l e rX10_scanWord s m _ below meth c s.heap [] 0 0 _ (entryFrame m ([.ref x0, .int x1] : List Value).toArray 6)
  rw [lg_entry_eq]
  generalize (lg_sl ([.ref x0, .int x1]) ++ List.replicate (6 - (lg_sl ([.ref x0, .int x1])).length) Slot.unset).toArray = ls at hl ⊢
  have hl : lv_has ls 6 (List.map gq [(0, vR (some x0)), (1, vI x1)]) := hl
  exact t_X10_scanWord_0 X hr _ _ _ _ hf rfl s.heap [] ls hW va_S.rf (lv_has_sub hl (lvsub_of _ _ [0, 1] rfl))
/-! ## TideLots$Tape.scanNumber(I)LTideLots$Sign; -/
theorem dX10_scanNumber_0 : decode cX10_scanNumber 0 = .ok (.aload_n 0, 1) := by decide +kernel
theorem dX10_scanNumber_1 : decode cX10_scanNumber 1 = .ok (.getfield 37, 3) := by decide +kernel
theorem dX10_scanNumber_4 : decode cX10_scanNumber 4 = .ok (.istore_n 2, 1) := by decide +kernel
theorem dX10_scanNumber_5 : decode cX10_scanNumber 5 = .ok (.lconst 0, 1) := by decide +kernel
theorem dX10_scanNumber_6 : decode cX10_scanNumber 6 = .ok (.lstore_n 3, 1) := by decide +kernel
theorem dX10_scanNumber_7 : decode cX10_scanNumber 7 = .ok (.aload_n 0, 1) := by decide +kernel
theorem dX10_scanNumber_8 : decode cX10_scanNumber 8 = .ok (.getfield 37, 3) := by decide +kernel
theorem dX10_scanNumber_11 : decode cX10_scanNumber 11 = .ok (.aload_n 0, 1) := by decide +kernel
theorem dX10_scanNumber_12 : decode cX10_scanNumber 12 = .ok (.getfield 33, 3) := by decide +kernel
theorem dX10_scanNumber_15 : decode cX10_scanNumber 15 = .ok (.if_icmp .ge 46, 3) := by decide +kernel
theorem dX10_scanNumber_18 : decode cX10_scanNumber 18 = .ok (.aload_n 0, 1) := by decide +kernel
theorem dX10_scanNumber_19 : decode cX10_scanNumber 19 = .ok (.aload_n 0, 1) := by decide +kernel
theorem dX10_scanNumber_20 : decode cX10_scanNumber 20 = .ok (.getfield 37, 3) := by decide +kernel
theorem dX10_scanNumber_23 : decode cX10_scanNumber 23 = .ok (.invokevirtual 61, 3) := by decide +kernel
theorem dX10_scanNumber_26 : decode cX10_scanNumber 26 = .ok (.ifCond .eq 35, 3) := by decide +kernel
theorem dX10_scanNumber_29 : decode cX10_scanNumber 29 = .ok (.lload_n 3, 1) := by decide +kernel
theorem dX10_scanNumber_30 : decode cX10_scanNumber 30 = .ok (.ldc2_w 80, 3) := by decide +kernel
theorem dX10_scanNumber_33 : decode cX10_scanNumber 33 = .ok (.lmul, 1) := by decide +kernel
theorem dX10_scanNumber_34 : decode cX10_scanNumber 34 = .ok (.aload_n 0, 1) := by decide +kernel
theorem dX10_scanNumber_35 : decode cX10_scanNumber 35 = .ok (.aload_n 0, 1) := by decide +kernel
theorem dX10_scanNumber_36 : decode cX10_scanNumber 36 = .ok (.getfield 37, 3) := by decide +kernel
theorem dX10_scanNumber_39 : decode cX10_scanNumber 39 = .ok (.invokevirtual 50, 3) := by decide +kernel
theorem dX10_scanNumber_42 : decode cX10_scanNumber 42 = .ok (.bipush 48, 2) := by decide +kernel
theorem dX10_scanNumber_44 : decode cX10_scanNumber 44 = .ok (.isub, 1) := by decide +kernel
theorem dX10_scanNumber_45 : decode cX10_scanNumber 45 = .ok (.i2l, 1) := by decide +kernel
theorem dX10_scanNumber_46 : decode cX10_scanNumber 46 = .ok (.ladd, 1) := by decide +kernel
theorem dX10_scanNumber_47 : decode cX10_scanNumber 47 = .ok (.lstore_n 3, 1) := by decide +kernel
theorem dX10_scanNumber_48 : decode cX10_scanNumber 48 = .ok (.aload_n 0, 1) := by decide +kernel
theorem dX10_scanNumber_49 : decode cX10_scanNumber 49 = .ok (.dup, 1) := by decide +kernel
theorem dX10_scanNumber_50 : decode cX10_scanNumber 50 = .ok (.getfield 37, 3) := by decide +kernel
theorem dX10_scanNumber_53 : decode cX10_scanNumber 53 = .ok (.iconst 1, 1) := by decide +kernel
theorem dX10_scanNumber_54 : decode cX10_scanNumber 54 = .ok (.iadd, 1) := by decide +kernel
theorem dX10_scanNumber_55 : decode cX10_scanNumber 55 = .ok (.putfield 37, 3) := by decide +kernel
theorem dX10_scanNumber_58 : decode cX10_scanNumber 58 = .ok (.goto (-51), 3) := by decide +kernel
theorem dX10_scanNumber_61 : decode cX10_scanNumber 61 = .ok (.aload_n 0, 1) := by decide +kernel
theorem dX10_scanNumber_62 : decode cX10_scanNumber 62 = .ok (.getfield 25, 3) := by decide +kernel
theorem dX10_scanNumber_65 : decode cX10_scanNumber 65 = .ok (.iload_n 1, 1) := by decide +kernel
theorem dX10_scanNumber_66 : decode cX10_scanNumber 66 = .ok (.lload_n 3, 1) := by decide +kernel
theorem dX10_scanNumber_67 : decode cX10_scanNumber 67 = .ok (.lastore, 1) := by decide +kernel
theorem dX10_scanNumber_68 : decode cX10_scanNumber 68 = .ok (.aload_n 0, 1) := by decide +kernel
theorem dX10_scanNumber_69 : decode cX10_scanNumber 69 = .ok (.getfield 37, 3) := by decide +kernel
theorem dX10_scanNumber_72 : decode cX10_scanNumber 72 = .ok (.iload_n 2, 1) := by decide +kernel
theorem dX10_scanNumber_73 : decode cX10_scanNumber 73 = .ok (.isub, 1) := by decide +kernel
theorem dX10_scanNumber_74 : decode cX10_scanNumber 74 = .ok (.bipush 6, 2) := by decide +kernel
theorem dX10_scanNumber_76 : decode cX10_scanNumber 76 = .ok (.if_icmp .le 9, 3) := by decide +kernel
theorem dX10_scanNumber_79 : decode cX10_scanNumber 79 = .ok (.getstatic 47, 3) := by decide +kernel
theorem dX10_scanNumber_82 : decode cX10_scanNumber 82 = .ok (.goto 6, 3) := by decide +kernel
theorem dX10_scanNumber_85 : decode cX10_scanNumber 85 = .ok (.getstatic 82, 3) := by decide +kernel
theorem dX10_scanNumber_88 : decode cX10_scanNumber 88 = .ok (.areturn, 1) := by decide +kernel
set_option maxRecDepth 20000 in
theorem ggX10_scanNumber_X10_isDigit : GoodIn wsX10_scanNumber wsX10_isDigit := goodIn_r _ [11, 12, 13, 14, 10, 15, 2, 16, 17, 18, 19, 20, 21, 22] (by decide +kernel) (by decide +kernel)
set_option maxRecDepth 20000 in
theorem gX10_scanNumber_X10_isDigit : GoodIn wsX10_scanNumber (wsV RX10 61 RX10 yX10_isDigit wsX10_isDigit) := goodIn_app (goodIn_of _ (by decide +kernel)) ggX10_scanNumber_X10_isDigit
set_option maxRecDepth 20000 in
theorem ggX10_scanNumber_X10_at : GoodIn wsX10_scanNumber wsX10_at := goodIn_r _ [15, 2, 16, 17, 18, 19, 20, 21, 22] (by decide +kernel) (by decide +kernel)
set_option maxRecDepth 20000 in
theorem gX10_scanNumber_X10_at : GoodIn wsX10_scanNumber (wsV RX10 50 RX10 yX10_at wsX10_at) := goodIn_app (goodIn_of _ (by decide +kernel)) ggX10_scanNumber_X10_at
theorem k_X10_scanNumber_f25 : Cond.fieldLink RX10 25 "TideLots$Tape" "values" "[J" ∈ wsX10_scanNumber := by decide +kernel
theorem i_X10_scanNumber_X10 : ∀ w ∈ u_ws RX10 TX10 6, w ∈ wsX10_scanNumber := by decide +kernel
theorem k_X10_scanNumber_f37 : Cond.fieldLink RX10 37 "TideLots$Tape" "end" "I" ∈ wsX10_scanNumber := by decide +kernel
theorem k_X10_scanNumber_f82 : Cond.fieldLink RX10 82 "TideLots$Sign" "NUMBER" "LTideLots$Sign;" ∈ wsX10_scanNumber := by decide +kernel
theorem k_X10_scanNumber_f47 : Cond.fieldLink RX10 47 "TideLots$Sign" "NO_TOKEN" "LTideLots$Sign;" ∈ wsX10_scanNumber := by decide +kernel
theorem k_X10_scanNumber_f33 : Cond.fieldLink RX10 33 "TideLots$Tape" "length" "I" ∈ wsX10_scanNumber := by decide +kernel
theorem k_X10_scanNumber_c80 : Jvm.Cond.constantLong RX10 80 (10) ∈ wsX10_scanNumber := by decide +kernel
abbrev rX10_scanNumber : Room := { frames := 2, cells := 0, slots := 0, locals := 42 }
noncomputable def b_X10_scanNumber_88 (Z : Nat → Nat) (M : gMem) (s0 : Option Nat) : Option (Option Nat × gMem) :=
  some (s0, M)
noncomputable def b_X10_scanNumber_61 (Z : Nat → Nat) (M : gMem) (x0 : Nat) (x1 : Int32) (x2 : Int32) (x3 : Int64) : Option (Option Nat × gMem) :=
  ck (mT M x0 = 9) <| dr ((mR M x0 4)) fun a2 => ck (mT M a2 = 21) <| ck (inb x1 (mL M a2)) <| lw (wJ M a2 x1.toNatClampNeg x3) fun M5 => (if ((mI M5 x0 5) - x2) ≤ (6 : Int32) then b_X10_scanNumber_88 Z M5 ((some (Z 41))) else b_X10_scanNumber_88 Z M5 ((some (Z 43))))
noncomputable def bb_X10_scanNumber_7 (Z : Nat → Nat) (M : gMem) (x0 : Nat) (x1 : Int32) (x2 : Int32) (x3 : Int64) : Option ((gMem × Int64) ⊕ (Option Nat × gMem)) :=
  ck (mT M x0 = 9) <| (if (mI M x0 0) ≤ (mI M x0 5) then oI (b_X10_scanNumber_61 Z M x0 x1 x2 x3) else bd (f_X10_isDigit M x0 ((mI M x0 5))) fun r10 M10 => (if r10 = 0 then oI (b_X10_scanNumber_61 Z M10 x0 x1 x2 x3) else ck (mT M10 x0 = 9) <| bd (f_X10_at M10 x0 ((mI M10 x0 5))) fun r13 M13 => ck (mT M13 x0 = 9) <| lw (wI M13 x0 5 (((mI M13 x0 5) + (1 : Int32)))) fun M15 => some (.inl (M15, ((x3 * (10 : Int64)) + (Int32.toInt64 (r13 - (48 : Int32))))))))
noncomputable def lp_X10_scanNumber_7 (Z : Nat → Nat) (M : gMem) (x0 : Nat) (x1 : Int32) (x2 : Int32) (x3 : Int64) : Option (Option Nat × gMem) :=
  lp (fun (q : gMem × Int64) => bb_X10_scanNumber_7 Z q.1 x0 x1 x2 q.2) (M, x3)
noncomputable def b_X10_scanNumber_0 (Z : Nat → Nat) (M : gMem) (x0 : Nat) (x1 : Int32) : Option (Option Nat × gMem) :=
  ck (mT M x0 = 9) <| lp_X10_scanNumber_7 Z M x0 x1 ((mI M x0 5)) ((0 : Int64))
noncomputable def f_X10_scanNumber (Z : Nat → Nat) (M : gMem) (x0 : Nat) (x1 : Int32) : Option (Option Nat × gMem) :=
  b_X10_scanNumber_0 Z M x0 x1
set_option maxHeartbeats 4000000 in
set_option maxRecDepth 100000 in
theorem t_X10_scanNumber_88 (X : gX p s m args meth c D cy B (gSt Z B H0) RX10 cX10_scanNumber wsX10_scanNumber 5) (hr : meth.sig.returnType = (some (.object "TideLots$Sign"))) {Q : State → Prop} : ∀ (M : gMem) (s0 : Option Nat) (z : Option Nat × gMem), b_X10_scanNumber_88 Z M s0 = some z → (fun (r : Option Nat × gMem) => Q = gMQ below D cy B H0 args s 0 0 (some (vR r.1)) r.2) z → gGo p l e rX10_scanNumber s m args below meth c D cy B H0 5 0 0 Q 88 [] [vR s0] M := by
  intro M s0 z hf hK
  unfold b_X10_scanNumber_88 at hf
  cases hf
  refine g_eqQ hK ?_
  exact g_aret X hr (Or.inl ⟨_, rfl⟩) dX10_scanNumber_88
set_option maxHeartbeats 4000000 in
set_option maxRecDepth 100000 in
theorem t_X10_scanNumber_61 (X : gX p s m args meth c D cy B (gSt Z B H0) RX10 cX10_scanNumber wsX10_scanNumber 5) (hr : meth.sig.returnType = (some (.object "TideLots$Sign"))) {Q : State → Prop} : ∀ (M : gMem) (x0 : Nat) (x1 : Int32) (x2 : Int32) (x3 : Int64) (z : Option Nat × gMem), b_X10_scanNumber_61 Z M x0 x1 x2 x3 = some z → (fun (r : Option Nat × gMem) => Q = gMQ below D cy B H0 args s 0 0 (some (vR r.1)) r.2) z → gGo p l e rX10_scanNumber s m args below meth c D cy B H0 5 0 0 Q 61 [(0, vR (some x0)), (1, vI x1), (2, vI x2), (3, vJ x3)] [] M := by
  intro M x0 x1 x2 x3 z hf hK
  unfold b_X10_scanNumber_61 at hf
  refine g_aload_n X dX10_scanNumber_61 rfl rfl ?_
  obtain ⟨hT1, hf⟩ := ck_e hf
  refine g_get (ci := 8) (v := vR (mR M x0 4)) 4 X cdX10 i_X10_scanNumber_X10 (by decide) k_X10_scanNumber_f25 rfl dX10_scanNumber_62 rfl hT1 rfl ?_
  refine g_iload_n X dX10_scanNumber_65 rfl rfl ?_
  refine g_lload_n X dX10_scanNumber_66 rfl rfl ?_
  obtain ⟨a2, ha2, hf⟩ := dr_e hf
  obtain ⟨hT3, hf⟩ := ck_e hf
  obtain ⟨hg4, hf⟩ := ck_e hf
  refine g_last X dX10_scanNumber_67 ha2 hT3 hg4 ?_
  obtain ⟨M5, hM5, hf⟩ := lw_e hf
  rw [← hM5]
  have hT6 : mT M5 x0 = 9 := by rw [hM5]; exact hT1
  have hT7 : mT M5 a2 = 21 := by rw [hM5]; exact hT3
  refine g_aload_n X dX10_scanNumber_68 rfl rfl ?_
  refine g_get (ci := 8) (v := vI (mI M5 x0 5)) 5 X cdX10 i_X10_scanNumber_X10 (by decide) k_X10_scanNumber_f37 rfl dX10_scanNumber_69 rfl hT6 rfl ?_
  refine g_iload_n X dX10_scanNumber_72 rfl rfl ?_
  refine g_isub X dX10_scanNumber_73 ?_
  refine g_bipush (v := (6 : Int32)) X dX10_scanNumber_74 (by decide) ?_
  refine g_icmp_le (tgt := 85) X dX10_scanNumber_76 (by decide) (fun hc => ?_) (fun hc => ?_)
  · have hf := ife_t hc hf
    refine g_gets (w := vR (some (Z 41))) X (gSt_E X 41 (by decide)) k_X10_scanNumber_f82 rfl dX10_scanNumber_85 ?_
    refine g_sub (lvsub_of _ _ [] rfl) ?_
    exact t_X10_scanNumber_88 X hr _ _ _ hf hK
  · have hf := ife_f hc hf
    refine g_gets (w := vR (some (Z 43))) X (gSt_E X 43 (by decide)) k_X10_scanNumber_f47 rfl dX10_scanNumber_79 ?_
    refine g_goto (tgt := 88) X dX10_scanNumber_82 (by decide) ?_
    refine g_sub (lvsub_of _ _ [] rfl) ?_
    exact t_X10_scanNumber_88 X hr _ _ _ hf hK
set_option maxHeartbeats 4000000 in
set_option maxRecDepth 100000 in
theorem tb_X10_scanNumber_7 (X : gX p s m args meth c D cy B (gSt Z B H0) RX10 cX10_scanNumber wsX10_scanNumber 5) (hr : meth.sig.returnType = (some (.object "TideLots$Sign"))) {Q : State → Prop} : ∀ (M : gMem) (x0 : Nat) (x1 : Int32) (x2 : Int32) (x3 : Int64) (z : (gMem × Int64) ⊕ (Option Nat × gMem)), bb_X10_scanNumber_7 Z M x0 x1 x2 x3 = some z → (Sum.elim (fun (q : gMem × Int64) => gGo p l e rX10_scanNumber s m args below meth c D cy B H0 5 0 0 Q 7 [(0, vR (some x0)), (1, vI x1), (2, vI x2), (3, vJ q.2)] [] q.1) (fun (r : Option Nat × gMem) => Q = gMQ below D cy B H0 args s 0 0 (some (vR r.1)) r.2)) z → gGo p l e rX10_scanNumber s m args below meth c D cy B H0 5 0 0 Q 7 [(0, vR (some x0)), (1, vI x1), (2, vI x2), (3, vJ x3)] [] M := by
  intro M x0 x1 x2 x3 z hf hK
  unfold bb_X10_scanNumber_7 at hf
  refine g_aload_n X dX10_scanNumber_7 rfl rfl ?_
  obtain ⟨hT8, hf⟩ := ck_e hf
  refine g_get (ci := 8) (v := vI (mI M x0 5)) 5 X cdX10 i_X10_scanNumber_X10 (by decide) k_X10_scanNumber_f37 rfl dX10_scanNumber_8 rfl hT8 rfl ?_
  refine g_aload_n X dX10_scanNumber_11 rfl rfl ?_
  refine g_get (ci := 8) (v := vI (mI M x0 0)) 0 X cdX10 i_X10_scanNumber_X10 (by decide) k_X10_scanNumber_f33 rfl dX10_scanNumber_12 rfl hT8 rfl ?_
  refine g_icmp_ge (tgt := 61) X dX10_scanNumber_15 (by decide) (fun hc => ?_) (fun hc => ?_)
  · have hf := ife_t hc hf
    obtain ⟨w9, hw9, hz9⟩ := oI_e hf
    subst hz9
    have hf := hw9
    refine g_sub (lvsub_of _ _ [0, 1, 2, 3] rfl) ?_
    exact t_X10_scanNumber_61 X hr _ _ _ _ _ _ hf hK
  · have hf := ife_f hc hf
    refine g_aload_n X dX10_scanNumber_18 rfl rfl ?_
    refine g_aload_n X dX10_scanNumber_19 rfl rfl ?_
    refine g_get (ci := 8) (v := vI (mI M x0 5)) 5 X cdX10 i_X10_scanNumber_X10 (by decide) k_X10_scanNumber_f37 rfl dX10_scanNumber_20 rfl hT8 rfl ?_
    obtain ⟨r10, M10, hq10, hf⟩ := bd_e hf
    refine g_callV (ci := 8) (b := x0) (As := [vI (mI M x0 5)]) (st := []) (v := some (vI r10)) (M1 := M10) X (m_X10_isDigit l hq10) (cwV 1 X.2.2.1 gX10_scanNumber_X10_isDigit rfl rfl rfl (by decide +kernel) ⟨Nat.le_of_ble_eq_true rfl, Nat.le_of_ble_eq_true rfl⟩) rfl rfl rfl hT8 (by decide) rfl (Nat.le_of_ble_eq_true rfl) dX10_scanNumber_23 ⟨by decide, by decide⟩ ?_
    refine g_if_eq (tgt := 61) X dX10_scanNumber_26 (by decide) (fun hc => ?_) (fun hc => ?_)
    · have hf := ife_t hc hf
      obtain ⟨w11, hw11, hz11⟩ := oI_e hf
      subst hz11
      have hf := hw11
      refine g_sub (lvsub_of _ _ [0, 1, 2, 3] rfl) ?_
      exact t_X10_scanNumber_61 X hr _ _ _ _ _ _ hf hK
    · have hf := ife_f hc hf
      refine g_lload_n X dX10_scanNumber_29 rfl rfl ?_
      refine g_ldc2 (v := (10 : Int64)) X k_X10_scanNumber_c80 dX10_scanNumber_30 ?_
      refine g_lmul X dX10_scanNumber_33 ?_
      refine g_aload_n X dX10_scanNumber_34 rfl rfl ?_
      refine g_aload_n X dX10_scanNumber_35 rfl rfl ?_
      obtain ⟨hT12, hf⟩ := ck_e hf
      refine g_get (ci := 8) (v := vI (mI M10 x0 5)) 5 X cdX10 i_X10_scanNumber_X10 (by decide) k_X10_scanNumber_f37 rfl dX10_scanNumber_36 rfl hT12 rfl ?_
      obtain ⟨r13, M13, hq13, hf⟩ := bd_e hf
      refine g_callV (ci := 8) (b := x0) (As := [vI (mI M10 x0 5)]) (st := [vJ (x3 * (10 : Int64))]) (v := some (vI r13)) (M1 := M13) X (m_X10_at l hq13) (cwV 1 X.2.2.1 gX10_scanNumber_X10_at rfl rfl rfl (by decide +kernel) ⟨Nat.le_of_ble_eq_true rfl, Nat.le_of_ble_eq_true rfl⟩) rfl rfl rfl hT12 (by decide) rfl (Nat.le_of_ble_eq_true rfl) dX10_scanNumber_39 ⟨by decide, by decide⟩ ?_
      refine g_bipush (v := (48 : Int32)) X dX10_scanNumber_42 (by decide) ?_
      refine g_isub X dX10_scanNumber_44 ?_
      refine g_i2l X dX10_scanNumber_45 ?_
      refine g_ladd X dX10_scanNumber_46 ?_
      refine g_lstore_n (lv' := [(3, vJ ((x3 * (10 : Int64)) + (Int32.toInt64 (r13 - (48 : Int32))))), (0, vR (some x0)), (1, vI x1), (2, vI x2)]) X dX10_scanNumber_47 rfl (by decide) rfl ?_
      refine g_aload_n X dX10_scanNumber_48 rfl rfl ?_
      refine g_dup X dX10_scanNumber_49 rfl ?_
      obtain ⟨hT14, hf⟩ := ck_e hf
      refine g_get (ci := 8) (v := vI (mI M13 x0 5)) 5 X cdX10 i_X10_scanNumber_X10 (by decide) k_X10_scanNumber_f37 rfl dX10_scanNumber_50 rfl hT14 rfl ?_
      refine g_iconst (v := (1 : Int32)) X dX10_scanNumber_53 (by decide) ?_
      refine g_iadd X dX10_scanNumber_54 ?_
      refine g_putI (ci := 8) 5 X cdX10 i_X10_scanNumber_X10 (by decide) k_X10_scanNumber_f37 rfl dX10_scanNumber_55 rfl hT14 (Or.inl rfl) rfl rfl rfl ?_
      obtain ⟨M15, hM15, hf⟩ := lw_e hf
      rw [← hM15]
      have hT16 : mT M15 x0 = 9 := by rw [hM15]; exact hT14
      refine g_goto (tgt := 7) X dX10_scanNumber_58 (by decide) ?_
      cases hf
      refine g_sub (lvsub_of _ _ [1, 2, 3, 0] rfl) ?_
      exact hK
set_option maxHeartbeats 4000000 in
set_option maxRecDepth 100000 in
theorem tl_X10_scanNumber_7 (X : gX p s m args meth c D cy B (gSt Z B H0) RX10 cX10_scanNumber wsX10_scanNumber 5) (hr : meth.sig.returnType = (some (.object "TideLots$Sign"))) {Q : State → Prop} : ∀ (M : gMem) (x0 : Nat) (x1 : Int32) (x2 : Int32) (x3 : Int64) (z : Option Nat × gMem), lp_X10_scanNumber_7 Z M x0 x1 x2 x3 = some z → (fun (r : Option Nat × gMem) => Q = gMQ below D cy B H0 args s 0 0 (some (vR r.1)) r.2) z → gGo p l e rX10_scanNumber s m args below meth c D cy B H0 5 0 0 Q 7 [(0, vR (some x0)), (1, vI x1), (2, vI x2), (3, vJ x3)] [] M := by
  intro M x0 x1 x2 x3 z hf hK
  refine lp_ind (P := (fun (q : gMem × Int64) (z : Option Nat × gMem) => (fun (r : Option Nat × gMem) => Q = gMQ below D cy B H0 args s 0 0 (some (vR r.1)) r.2) z → gGo p l e rX10_scanNumber s m args below meth c D cy B H0 5 0 0 Q 7 [(0, vR (some x0)), (1, vI x1), (2, vI x2), (3, vJ q.2)] [] q.1)) (fun q z hq => ?_) _ _ hf hK
  intro hK
  obtain ⟨w, hw, hm⟩ := hq
  refine tb_X10_scanNumber_7 X hr _ _ _ _ _ w hw ?_
  cases w with
  | inl a => exact hm hK
  | inr b => cases hm; exact hK
set_option maxHeartbeats 4000000 in
set_option maxRecDepth 100000 in
theorem t_X10_scanNumber_0 (X : gX p s m args meth c D cy B (gSt Z B H0) RX10 cX10_scanNumber wsX10_scanNumber 5) (hr : meth.sig.returnType = (some (.object "TideLots$Sign"))) {Q : State → Prop} : ∀ (M : gMem) (x0 : Nat) (x1 : Int32) (z : Option Nat × gMem), b_X10_scanNumber_0 Z M x0 x1 = some z → (fun (r : Option Nat × gMem) => Q = gMQ below D cy B H0 args s 0 0 (some (vR r.1)) r.2) z → gGo p l e rX10_scanNumber s m args below meth c D cy B H0 5 0 0 Q 0 [(0, vR (some x0)), (1, vI x1)] [] M := by
  intro M x0 x1 z hf hK
  unfold b_X10_scanNumber_0 at hf
  refine g_aload_n X dX10_scanNumber_0 rfl rfl ?_
  obtain ⟨hT17, hf⟩ := ck_e hf
  refine g_get (ci := 8) (v := vI (mI M x0 5)) 5 X cdX10 i_X10_scanNumber_X10 (by decide) k_X10_scanNumber_f37 rfl dX10_scanNumber_1 rfl hT17 rfl ?_
  refine g_istore_n (lv' := [(2, vI (mI M x0 5)), (0, vR (some x0)), (1, vI x1)]) X dX10_scanNumber_4 rfl (by decide) rfl ?_
  refine g_lconst (v := (0 : Int64)) X dX10_scanNumber_5 (by decide) ?_
  refine g_lstore_n (lv' := [(3, vJ (0 : Int64)), (2, vI (mI M x0 5)), (0, vR (some x0)), (1, vI x1)]) X dX10_scanNumber_6 rfl (by decide) rfl ?_
  refine g_sub (lvsub_of _ _ [2, 3, 1, 0] rfl) ?_
  exact tl_X10_scanNumber_7 X hr _ _ _ _ _ _ hf hK
set_option maxHeartbeats 4000000 in
set_option maxRecDepth 100000 in
theorem m_X10_scanNumber (l : Launch) {D : va_G} {cy : Nat → ClassId} {B : Nat} {H0 : Heap} {Z : Nat → Nat} {M M1 : gMem} {x0 : Nat} {x1 : Int32} {r : Option Nat} (hf : f_X10_scanNumber Z M x0 x1 = some (r, M1)) : Met l yX10_scanNumber wsX10_scanNumber rX10_scanNumber (va_Pc (Value.ref x0 :: List.map gv [vI x1]) (gPre D cy B H0 (gSt Z B H0) M)) (gQ D cy B H0 (some (vR r)) M1) 0 0 (gA B) := by
  refine Met.ofW (cc := cX10_scanNumber) (maxL := 5) (ret := (some (.object "TideLots$Sign"))) (by decide) rfl ?_
  intro p e s m args below meth c s₁ Bd hml hv
  obtain ⟨rfl, hW, hKK, hFs⟩ := hv
  have X : gX p s m _ meth c D cy B (gSt Z B H0) RX10 cX10_scanNumber wsX10_scanNumber 5 := ⟨Bd.exec, Bd.bytes, atoms_spec (ws := wsX10_scanNumber) Bd.pre, findClass_of_methodNamed Bd.named, hml, hKK, by rw [hW.1]; exact hW.2.1, Bd.notSynchronized, hFs⟩
  have hr := Bd.returns
  have hl := lv_entry ([.ref x0, .int x1]) (n := 5) (Nat.le_of_ble_eq_true rfl)
  show W p l e rX10_scanNumber s m _ below meth c s.heap [] 0 0 _ (entryFrame m ([.ref x0, .int x1] : List Value).toArray 5)
  rw [lg_entry_eq]
  generalize (lg_sl ([.ref x0, .int x1]) ++ List.replicate (5 - (lg_sl ([.ref x0, .int x1])).length) Slot.unset).toArray = ls at hl ⊢
  have hl : lv_has ls 5 (List.map gq [(0, vR (some x0)), (1, vI x1)]) := hl
  exact t_X10_scanNumber_0 X hr _ _ _ _ hf rfl s.heap [] ls hW va_S.rf (lv_has_sub hl (lvsub_of _ _ [0, 1] rfl))
/-! ## TideLots$Tape.scanToken(I)LTideLots$Sign; -/
theorem dX10_scanToken_0 : decode cX10_scanToken 0 = .ok (.aload_n 0, 1) := by decide +kernel
theorem dX10_scanToken_1 : decode cX10_scanToken 1 = .ok (.getfield 37, 3) := by decide +kernel
theorem dX10_scanToken_4 : decode cX10_scanToken 4 = .ok (.aload_n 0, 1) := by decide +kernel
theorem dX10_scanToken_5 : decode cX10_scanToken 5 = .ok (.getfield 33, 3) := by decide +kernel
theorem dX10_scanToken_8 : decode cX10_scanToken 8 = .ok (.if_icmp .lt 7, 3) := by decide +kernel
theorem dX10_scanToken_11 : decode cX10_scanToken 11 = .ok (.getstatic 29, 3) := by decide +kernel
theorem dX10_scanToken_14 : decode cX10_scanToken 14 = .ok (.areturn, 1) := by decide +kernel
theorem dX10_scanToken_15 : decode cX10_scanToken 15 = .ok (.aload_n 0, 1) := by decide +kernel
theorem dX10_scanToken_16 : decode cX10_scanToken 16 = .ok (.aload_n 0, 1) := by decide +kernel
theorem dX10_scanToken_17 : decode cX10_scanToken 17 = .ok (.getfield 37, 3) := by decide +kernel
theorem dX10_scanToken_20 : decode cX10_scanToken 20 = .ok (.invokevirtual 54, 3) := by decide +kernel
theorem dX10_scanToken_23 : decode cX10_scanToken 23 = .ok (.ifCond .eq 9, 3) := by decide +kernel
theorem dX10_scanToken_26 : decode cX10_scanToken 26 = .ok (.aload_n 0, 1) := by decide +kernel
theorem dX10_scanToken_27 : decode cX10_scanToken 27 = .ok (.iload_n 1, 1) := by decide +kernel
theorem dX10_scanToken_28 : decode cX10_scanToken 28 = .ok (.invokevirtual 58, 3) := by decide +kernel
theorem dX10_scanToken_31 : decode cX10_scanToken 31 = .ok (.areturn, 1) := by decide +kernel
theorem dX10_scanToken_32 : decode cX10_scanToken 32 = .ok (.aload_n 0, 1) := by decide +kernel
theorem dX10_scanToken_33 : decode cX10_scanToken 33 = .ok (.aload_n 0, 1) := by decide +kernel
theorem dX10_scanToken_34 : decode cX10_scanToken 34 = .ok (.getfield 37, 3) := by decide +kernel
theorem dX10_scanToken_37 : decode cX10_scanToken 37 = .ok (.invokevirtual 61, 3) := by decide +kernel
theorem dX10_scanToken_40 : decode cX10_scanToken 40 = .ok (.ifCond .eq 11, 3) := by decide +kernel
theorem dX10_scanToken_43 : decode cX10_scanToken 43 = .ok (.aload_n 0, 1) := by decide +kernel
theorem dX10_scanToken_44 : decode cX10_scanToken 44 = .ok (.iload_n 1, 1) := by decide +kernel
theorem dX10_scanToken_45 : decode cX10_scanToken 45 = .ok (.invokevirtual 64, 3) := by decide +kernel
theorem dX10_scanToken_48 : decode cX10_scanToken 48 = .ok (.goto 7, 3) := by decide +kernel
theorem dX10_scanToken_51 : decode cX10_scanToken 51 = .ok (.aload_n 0, 1) := by decide +kernel
theorem dX10_scanToken_52 : decode cX10_scanToken 52 = .ok (.invokevirtual 67, 3) := by decide +kernel
theorem dX10_scanToken_55 : decode cX10_scanToken 55 = .ok (.areturn, 1) := by decide +kernel
set_option maxRecDepth 20000 in
theorem ggX10_scanToken_X10_isLetter : GoodIn wsX10_scanToken wsX10_isLetter := goodIn_r _ [8, 9, 10, 11, 7, 12, 2, 13, 94, 95, 96, 97, 98, 99] (by decide +kernel) (by decide +kernel)
set_option maxRecDepth 20000 in
theorem gX10_scanToken_X10_isLetter : GoodIn wsX10_scanToken (wsV RX10 54 RX10 yX10_isLetter wsX10_isLetter) := goodIn_app (goodIn_of _ (by decide +kernel)) ggX10_scanToken_X10_isLetter
set_option maxRecDepth 20000 in
theorem ggX10_scanToken_X10_isDigit : GoodIn wsX10_scanToken wsX10_isDigit := goodIn_r _ [25, 9, 10, 11, 7, 12, 2, 13, 94, 95, 96, 97, 98, 99] (by decide +kernel) (by decide +kernel)
set_option maxRecDepth 20000 in
theorem gX10_scanToken_X10_isDigit : GoodIn wsX10_scanToken (wsV RX10 61 RX10 yX10_isDigit wsX10_isDigit) := goodIn_app (goodIn_of _ (by decide +kernel)) ggX10_scanToken_X10_isDigit
set_option maxRecDepth 20000 in
theorem ggX10_scanToken_X10_scanSymbol : GoodIn wsX10_scanToken wsX10_scanSymbol := goodIn_r _ [93, 1, 20, 26, 27, 28, 7, 29, 30, 31, 32, 33, 34, 35, 36, 37, 38, 39, 40, 41, 42, 43, 44, 45, 46, 9, 10, 11, 12, 2, 13, 47, 48, 49, 50, 51, 52, 53, 54, 55, 56, 57, 58, 59, 60, 61, 62, 63, 64, 65, 66, 67, 68, 69, 70, 71, 72, 73, 74, 75, 76, 77, 78, 79, 80, 81, 82, 83, 94, 95, 96, 97, 98, 99, 100, 101, 102, 103] (by decide +kernel) (by decide +kernel)
set_option maxRecDepth 20000 in
theorem gX10_scanToken_X10_scanSymbol : GoodIn wsX10_scanToken (wsV RX10 67 RX10 yX10_scanSymbol wsX10_scanSymbol) := goodIn_app (goodIn_of _ (by decide +kernel)) ggX10_scanToken_X10_scanSymbol
set_option maxRecDepth 20000 in
theorem ggX10_scanToken_X10_scanNumber : GoodIn wsX10_scanToken wsX10_scanNumber := goodIn_r _ [87, 1, 2, 88, 19, 20, 89, 22, 23, 24, 7, 25, 9, 10, 11, 12, 13, 94, 95, 96, 97, 98, 99] (by decide +kernel) (by decide +kernel)
set_option maxRecDepth 20000 in
theorem gX10_scanToken_X10_scanNumber : GoodIn wsX10_scanToken (wsV RX10 64 RX10 yX10_scanNumber wsX10_scanNumber) := goodIn_app (goodIn_of _ (by decide +kernel)) ggX10_scanToken_X10_scanNumber
set_option maxRecDepth 20000 in
theorem ggX10_scanToken_X10_scanWord : GoodIn wsX10_scanToken wsX10_scanWord := goodIn_r _ [17, 1, 2, 18, 19, 20, 21, 4, 5, 6, 7, 8, 9, 10, 11, 12, 13, 22, 23, 24, 25, 26, 27, 28, 29, 30, 31, 32, 33, 34, 35, 36, 37, 38, 39, 40, 41, 42, 43, 44, 45, 46, 47, 48, 49, 50, 51, 52, 53, 54, 55, 56, 57, 58, 59, 60, 61, 62, 63, 64, 65, 66, 67, 68, 69, 70, 71, 72, 73, 74, 75, 76, 77, 78, 79, 80, 81, 82, 83, 94, 95, 96, 97, 98, 99, 100, 101, 102, 103] (by decide +kernel) (by decide +kernel)
set_option maxRecDepth 20000 in
theorem gX10_scanToken_X10_scanWord : GoodIn wsX10_scanToken (wsV RX10 58 RX10 yX10_scanWord wsX10_scanWord) := goodIn_app (goodIn_of _ (by decide +kernel)) ggX10_scanToken_X10_scanWord
theorem k_X10_scanToken_f37 : Cond.fieldLink RX10 37 "TideLots$Tape" "end" "I" ∈ wsX10_scanToken := by decide +kernel
theorem i_X10_scanToken_X10 : ∀ w ∈ u_ws RX10 TX10 6, w ∈ wsX10_scanToken := by decide +kernel
theorem k_X10_scanToken_f33 : Cond.fieldLink RX10 33 "TideLots$Tape" "length" "I" ∈ wsX10_scanToken := by decide +kernel
theorem k_X10_scanToken_f29 : Cond.fieldLink RX10 29 "TideLots$Sign" "END" "LTideLots$Sign;" ∈ wsX10_scanToken := by decide +kernel
abbrev rX10_scanToken : Room := { frames := 7, cells := 0, slots := 0, locals := 161 }
noncomputable def b_X10_scanToken_55 (Z : Nat → Nat) (M : gMem) (s0 : Option Nat) : Option (Option Nat × gMem) :=
  some (s0, M)
noncomputable def b_X10_scanToken_0 (Z : Nat → Nat) (M : gMem) (x0 : Nat) (x1 : Int32) : Option (Option Nat × gMem) :=
  ck (mT M x0 = 9) <| (if (mI M x0 5) < (mI M x0 0) then bd (f_X10_isLetter M x0 ((mI M x0 5))) fun r2 M2 => (if r2 = 0 then ck (mT M2 x0 = 9) <| bd (f_X10_isDigit M2 x0 ((mI M2 x0 5))) fun r4 M4 => (if r4 = 0 then ck (mT M4 x0 = 9) <| bd (f_X10_scanSymbol Z M4 x0) fun r5 M5 => b_X10_scanToken_55 Z M5 r5 else ck (mT M4 x0 = 9) <| bd (f_X10_scanNumber Z M4 x0 x1) fun r7 M7 => b_X10_scanToken_55 Z M7 r7) else ck (mT M2 x0 = 9) <| bd (f_X10_scanWord Z M2 x0 x1) fun r9 M9 => some (r9, M9)) else some ((some (Z 42)), M))
noncomputable def f_X10_scanToken (Z : Nat → Nat) (M : gMem) (x0 : Nat) (x1 : Int32) : Option (Option Nat × gMem) :=
  b_X10_scanToken_0 Z M x0 x1
set_option maxHeartbeats 4000000 in
set_option maxRecDepth 100000 in
theorem t_X10_scanToken_55 (X : gX p s m args meth c D cy B (gSt Z B H0) RX10 cX10_scanToken wsX10_scanToken 2) (hr : meth.sig.returnType = (some (.object "TideLots$Sign"))) {Q : State → Prop} : ∀ (M : gMem) (s0 : Option Nat) (z : Option Nat × gMem), b_X10_scanToken_55 Z M s0 = some z → (fun (r : Option Nat × gMem) => Q = gMQ below D cy B H0 args s 0 0 (some (vR r.1)) r.2) z → gGo p l e rX10_scanToken s m args below meth c D cy B H0 2 0 0 Q 55 [] [vR s0] M := by
  intro M s0 z hf hK
  unfold b_X10_scanToken_55 at hf
  cases hf
  refine g_eqQ hK ?_
  exact g_aret X hr (Or.inl ⟨_, rfl⟩) dX10_scanToken_55
set_option maxHeartbeats 4000000 in
set_option maxRecDepth 100000 in
theorem t_X10_scanToken_0 (X : gX p s m args meth c D cy B (gSt Z B H0) RX10 cX10_scanToken wsX10_scanToken 2) (hr : meth.sig.returnType = (some (.object "TideLots$Sign"))) {Q : State → Prop} : ∀ (M : gMem) (x0 : Nat) (x1 : Int32) (z : Option Nat × gMem), b_X10_scanToken_0 Z M x0 x1 = some z → (fun (r : Option Nat × gMem) => Q = gMQ below D cy B H0 args s 0 0 (some (vR r.1)) r.2) z → gGo p l e rX10_scanToken s m args below meth c D cy B H0 2 0 0 Q 0 [(0, vR (some x0)), (1, vI x1)] [] M := by
  intro M x0 x1 z hf hK
  unfold b_X10_scanToken_0 at hf
  refine g_aload_n X dX10_scanToken_0 rfl rfl ?_
  obtain ⟨hT1, hf⟩ := ck_e hf
  refine g_get (ci := 8) (v := vI (mI M x0 5)) 5 X cdX10 i_X10_scanToken_X10 (by decide) k_X10_scanToken_f37 rfl dX10_scanToken_1 rfl hT1 rfl ?_
  refine g_aload_n X dX10_scanToken_4 rfl rfl ?_
  refine g_get (ci := 8) (v := vI (mI M x0 0)) 0 X cdX10 i_X10_scanToken_X10 (by decide) k_X10_scanToken_f33 rfl dX10_scanToken_5 rfl hT1 rfl ?_
  refine g_icmp_lt (tgt := 15) X dX10_scanToken_8 (by decide) (fun hc => ?_) (fun hc => ?_)
  · have hf := ife_t hc hf
    refine g_aload_n X dX10_scanToken_15 rfl rfl ?_
    refine g_aload_n X dX10_scanToken_16 rfl rfl ?_
    refine g_get (ci := 8) (v := vI (mI M x0 5)) 5 X cdX10 i_X10_scanToken_X10 (by decide) k_X10_scanToken_f37 rfl dX10_scanToken_17 rfl hT1 rfl ?_
    obtain ⟨r2, M2, hq2, hf⟩ := bd_e hf
    refine g_callV (ci := 8) (b := x0) (As := [vI (mI M x0 5)]) (st := []) (v := some (vI r2)) (M1 := M2) X (m_X10_isLetter l hq2) (cwV 1 X.2.2.1 gX10_scanToken_X10_isLetter rfl rfl rfl (by decide +kernel) ⟨Nat.le_of_ble_eq_true rfl, Nat.le_of_ble_eq_true rfl⟩) rfl rfl rfl hT1 (by decide) rfl (Nat.le_of_ble_eq_true rfl) dX10_scanToken_20 ⟨by decide, by decide⟩ ?_
    refine g_if_eq (tgt := 32) X dX10_scanToken_23 (by decide) (fun hc => ?_) (fun hc => ?_)
    · have hf := ife_t hc hf
      refine g_aload_n X dX10_scanToken_32 rfl rfl ?_
      refine g_aload_n X dX10_scanToken_33 rfl rfl ?_
      obtain ⟨hT3, hf⟩ := ck_e hf
      refine g_get (ci := 8) (v := vI (mI M2 x0 5)) 5 X cdX10 i_X10_scanToken_X10 (by decide) k_X10_scanToken_f37 rfl dX10_scanToken_34 rfl hT3 rfl ?_
      obtain ⟨r4, M4, hq4, hf⟩ := bd_e hf
      refine g_callV (ci := 8) (b := x0) (As := [vI (mI M2 x0 5)]) (st := []) (v := some (vI r4)) (M1 := M4) X (m_X10_isDigit l hq4) (cwV 1 X.2.2.1 gX10_scanToken_X10_isDigit rfl rfl rfl (by decide +kernel) ⟨Nat.le_of_ble_eq_true rfl, Nat.le_of_ble_eq_true rfl⟩) rfl rfl rfl hT3 (by decide) rfl (Nat.le_of_ble_eq_true rfl) dX10_scanToken_37 ⟨by decide, by decide⟩ ?_
      refine g_if_eq (tgt := 51) X dX10_scanToken_40 (by decide) (fun hc => ?_) (fun hc => ?_)
      · have hf := ife_t hc hf
        refine g_aload_n X dX10_scanToken_51 rfl rfl ?_
        obtain ⟨hT6, hf⟩ := ck_e hf
        obtain ⟨r5, M5, hq5, hf⟩ := bd_e hf
        refine g_callV (ci := 8) (b := x0) (As := []) (st := []) (v := some (vR r5)) (M1 := M5) X (m_X10_scanSymbol l hq5) (cwV 0 X.2.2.1 gX10_scanToken_X10_scanSymbol rfl rfl rfl (by decide +kernel) ⟨Nat.le_of_ble_eq_true rfl, Nat.le_of_ble_eq_true rfl⟩) rfl rfl rfl hT6 (by decide) rfl (Nat.le_of_ble_eq_true rfl) dX10_scanToken_52 ⟨by decide, by decide⟩ ?_
        refine g_sub (lvsub_of _ _ [] rfl) ?_
        exact t_X10_scanToken_55 X hr _ _ _ hf hK
      · have hf := ife_f hc hf
        refine g_aload_n X dX10_scanToken_43 rfl rfl ?_
        refine g_iload_n X dX10_scanToken_44 rfl rfl ?_
        obtain ⟨hT8, hf⟩ := ck_e hf
        obtain ⟨r7, M7, hq7, hf⟩ := bd_e hf
        refine g_callV (ci := 8) (b := x0) (As := [vI x1]) (st := []) (v := some (vR r7)) (M1 := M7) X (m_X10_scanNumber l hq7) (cwV 1 X.2.2.1 gX10_scanToken_X10_scanNumber rfl rfl rfl (by decide +kernel) ⟨Nat.le_of_ble_eq_true rfl, Nat.le_of_ble_eq_true rfl⟩) rfl rfl rfl hT8 (by decide) rfl (Nat.le_of_ble_eq_true rfl) dX10_scanToken_45 ⟨by decide, by decide⟩ ?_
        refine g_goto (tgt := 55) X dX10_scanToken_48 (by decide) ?_
        refine g_sub (lvsub_of _ _ [] rfl) ?_
        exact t_X10_scanToken_55 X hr _ _ _ hf hK
    · have hf := ife_f hc hf
      refine g_aload_n X dX10_scanToken_26 rfl rfl ?_
      refine g_iload_n X dX10_scanToken_27 rfl rfl ?_
      obtain ⟨hT10, hf⟩ := ck_e hf
      obtain ⟨r9, M9, hq9, hf⟩ := bd_e hf
      refine g_callV (ci := 8) (b := x0) (As := [vI x1]) (st := []) (v := some (vR r9)) (M1 := M9) X (m_X10_scanWord l hq9) (cwV 1 X.2.2.1 gX10_scanToken_X10_scanWord rfl rfl rfl (by decide +kernel) ⟨Nat.le_of_ble_eq_true rfl, Nat.le_of_ble_eq_true rfl⟩) rfl rfl rfl hT10 (by decide) rfl (Nat.le_of_ble_eq_true rfl) dX10_scanToken_28 ⟨by decide, by decide⟩ ?_
      cases hf
      refine g_eqQ hK ?_
      exact g_aret X hr (Or.inl ⟨_, rfl⟩) dX10_scanToken_31
  · have hf := ife_f hc hf
    refine g_gets (w := vR (some (Z 42))) X (gSt_E X 42 (by decide)) k_X10_scanToken_f29 rfl dX10_scanToken_11 ?_
    cases hf
    refine g_eqQ hK ?_
    exact g_aret X hr (Or.inl ⟨_, rfl⟩) dX10_scanToken_14
set_option maxHeartbeats 4000000 in
set_option maxRecDepth 100000 in
theorem m_X10_scanToken (l : Launch) {D : va_G} {cy : Nat → ClassId} {B : Nat} {H0 : Heap} {Z : Nat → Nat} {M M1 : gMem} {x0 : Nat} {x1 : Int32} {r : Option Nat} (hf : f_X10_scanToken Z M x0 x1 = some (r, M1)) : Met l yX10_scanToken wsX10_scanToken rX10_scanToken (va_Pc (Value.ref x0 :: List.map gv [vI x1]) (gPre D cy B H0 (gSt Z B H0) M)) (gQ D cy B H0 (some (vR r)) M1) 0 0 (gA B) := by
  refine Met.ofW (cc := cX10_scanToken) (maxL := 2) (ret := (some (.object "TideLots$Sign"))) (by decide) rfl ?_
  intro p e s m args below meth c s₁ Bd hml hv
  obtain ⟨rfl, hW, hKK, hFs⟩ := hv
  have X : gX p s m _ meth c D cy B (gSt Z B H0) RX10 cX10_scanToken wsX10_scanToken 2 := ⟨Bd.exec, Bd.bytes, atoms_spec (ws := wsX10_scanToken) Bd.pre, findClass_of_methodNamed Bd.named, hml, hKK, by rw [hW.1]; exact hW.2.1, Bd.notSynchronized, hFs⟩
  have hr := Bd.returns
  have hl := lv_entry ([.ref x0, .int x1]) (n := 2) (Nat.le_of_ble_eq_true rfl)
  show W p l e rX10_scanToken s m _ below meth c s.heap [] 0 0 _ (entryFrame m ([.ref x0, .int x1] : List Value).toArray 2)
  rw [lg_entry_eq]
  generalize (lg_sl ([.ref x0, .int x1]) ++ List.replicate (2 - (lg_sl ([.ref x0, .int x1])).length) Slot.unset).toArray = ls at hl ⊢
  have hl : lv_has ls 2 (List.map gq [(0, vR (some x0)), (1, vI x1)]) := hl
  exact t_X10_scanToken_0 X hr _ _ _ _ hf rfl s.heap [] ls hW va_S.rf (lv_has_sub hl (lvsub_of _ _ [0, 1] rfl))
/-! ## TideLots$Tape.scan()V -/
theorem dX10_scan_0 : decode cX10_scan 0 = .ok (.aload_n 0, 1) := by decide +kernel
theorem dX10_scan_1 : decode cX10_scan 1 = .ok (.iconst 0, 1) := by decide +kernel
theorem dX10_scan_2 : decode cX10_scan 2 = .ok (.putfield 37, 3) := by decide +kernel
theorem dX10_scan_5 : decode cX10_scan 5 = .ok (.iconst 0, 1) := by decide +kernel
theorem dX10_scan_6 : decode cX10_scan 6 = .ok (.istore_n 1, 1) := by decide +kernel
theorem dX10_scan_7 : decode cX10_scan 7 = .ok (.iload_n 1, 1) := by decide +kernel
theorem dX10_scan_8 : decode cX10_scan 8 = .ok (.sipush 400, 3) := by decide +kernel
theorem dX10_scan_11 : decode cX10_scan 11 = .ok (.if_icmp .gt 83, 3) := by decide +kernel
theorem dX10_scan_14 : decode cX10_scan 14 = .ok (.aload_n 0, 1) := by decide +kernel
theorem dX10_scan_15 : decode cX10_scan 15 = .ok (.invokevirtual 40, 3) := by decide +kernel
theorem dX10_scan_18 : decode cX10_scan 18 = .ok (.aload_n 0, 1) := by decide +kernel
theorem dX10_scan_19 : decode cX10_scan 19 = .ok (.getfield 21, 3) := by decide +kernel
theorem dX10_scan_22 : decode cX10_scan 22 = .ok (.iload_n 1, 1) := by decide +kernel
theorem dX10_scan_23 : decode cX10_scan 23 = .ok (.aload_n 0, 1) := by decide +kernel
theorem dX10_scan_24 : decode cX10_scan 24 = .ok (.getfield 37, 3) := by decide +kernel
theorem dX10_scan_27 : decode cX10_scan 27 = .ok (.iastore, 1) := by decide +kernel
theorem dX10_scan_28 : decode cX10_scan 28 = .ok (.aload_n 0, 1) := by decide +kernel
theorem dX10_scan_29 : decode cX10_scan 29 = .ok (.getfield 17, 3) := by decide +kernel
theorem dX10_scan_32 : decode cX10_scan 32 = .ok (.iload_n 1, 1) := by decide +kernel
theorem dX10_scan_33 : decode cX10_scan 33 = .ok (.iload_n 1, 1) := by decide +kernel
theorem dX10_scan_34 : decode cX10_scan 34 = .ok (.sipush 400, 3) := by decide +kernel
theorem dX10_scan_37 : decode cX10_scan 37 = .ok (.if_icmp .lt 14, 3) := by decide +kernel
theorem dX10_scan_40 : decode cX10_scan 40 = .ok (.aload_n 0, 1) := by decide +kernel
theorem dX10_scan_41 : decode cX10_scan 41 = .ok (.getfield 37, 3) := by decide +kernel
theorem dX10_scan_44 : decode cX10_scan 44 = .ok (.aload_n 0, 1) := by decide +kernel
theorem dX10_scan_45 : decode cX10_scan 45 = .ok (.getfield 33, 3) := by decide +kernel
theorem dX10_scan_48 : decode cX10_scan 48 = .ok (.if_icmp .lt 11, 3) := by decide +kernel
theorem dX10_scan_51 : decode cX10_scan 51 = .ok (.aload_n 0, 1) := by decide +kernel
theorem dX10_scan_52 : decode cX10_scan 52 = .ok (.iload_n 1, 1) := by decide +kernel
theorem dX10_scan_53 : decode cX10_scan 53 = .ok (.invokevirtual 43, 3) := by decide +kernel
theorem dX10_scan_56 : decode cX10_scan 56 = .ok (.goto 6, 3) := by decide +kernel
theorem dX10_scan_59 : decode cX10_scan 59 = .ok (.getstatic 47, 3) := by decide +kernel
theorem dX10_scan_62 : decode cX10_scan 62 = .ok (.aastore, 1) := by decide +kernel
theorem dX10_scan_63 : decode cX10_scan 63 = .ok (.aload_n 0, 1) := by decide +kernel
theorem dX10_scan_64 : decode cX10_scan 64 = .ok (.getfield 17, 3) := by decide +kernel
theorem dX10_scan_67 : decode cX10_scan 67 = .ok (.iload_n 1, 1) := by decide +kernel
theorem dX10_scan_68 : decode cX10_scan 68 = .ok (.aaload, 1) := by decide +kernel
theorem dX10_scan_69 : decode cX10_scan 69 = .ok (.getstatic 29, 3) := by decide +kernel
theorem dX10_scan_72 : decode cX10_scan 72 = .ok (.if_acmp .eq 15, 3) := by decide +kernel
theorem dX10_scan_75 : decode cX10_scan 75 = .ok (.aload_n 0, 1) := by decide +kernel
theorem dX10_scan_76 : decode cX10_scan 76 = .ok (.getfield 17, 3) := by decide +kernel
theorem dX10_scan_79 : decode cX10_scan 79 = .ok (.iload_n 1, 1) := by decide +kernel
theorem dX10_scan_80 : decode cX10_scan 80 = .ok (.aaload, 1) := by decide +kernel
theorem dX10_scan_81 : decode cX10_scan 81 = .ok (.getstatic 47, 3) := by decide +kernel
theorem dX10_scan_84 : decode cX10_scan 84 = .ok (.if_acmp .ne 4, 3) := by decide +kernel
theorem dX10_scan_87 : decode cX10_scan 87 = .ok (.return_, 1) := by decide +kernel
theorem dX10_scan_88 : decode cX10_scan 88 = .ok (.iinc 1 1, 3) := by decide +kernel
theorem dX10_scan_91 : decode cX10_scan 91 = .ok (.goto (-84), 3) := by decide +kernel
theorem dX10_scan_94 : decode cX10_scan 94 = .ok (.return_, 1) := by decide +kernel
set_option maxRecDepth 20000 in
theorem ggX10_scan_X10_scanToken : GoodIn wsX10_scan wsX10_scanToken := goodIn_r _ [20, 1, 4, 6, 21, 22, 23, 10, 24, 12, 13, 14, 15, 16, 25, 26, 27, 28, 29, 30, 5, 31, 32, 33, 34, 35, 36, 37, 38, 39, 40, 41, 42, 43, 44, 45, 46, 47, 48, 49, 50, 51, 52, 53, 54, 55, 56, 57, 58, 59, 60, 61, 62, 63, 64, 65, 66, 67, 68, 69, 70, 71, 72, 73, 74, 75, 76, 77, 78, 79, 80, 81, 82, 83, 84, 85, 86, 87, 88, 89, 90, 91, 92, 93, 94, 95, 96, 97, 98, 99, 100, 101, 102, 103, 104, 105, 106, 107, 108, 109, 110, 111, 112, 113] (by decide +kernel) (by decide +kernel)
set_option maxRecDepth 20000 in
theorem gX10_scan_X10_scanToken : GoodIn wsX10_scan (wsV RX10 43 RX10 yX10_scanToken wsX10_scanToken) := goodIn_app (goodIn_of _ (by decide +kernel)) ggX10_scan_X10_scanToken
set_option maxRecDepth 20000 in
theorem ggX10_scan_X10_skipBlanks : GoodIn wsX10_scan wsX10_skipBlanks := goodIn_r _ [11, 1, 4, 12, 13, 14, 10, 15, 16, 104, 105, 106, 107, 108, 109] (by decide +kernel) (by decide +kernel)
set_option maxRecDepth 20000 in
theorem gX10_scan_X10_skipBlanks : GoodIn wsX10_scan (wsV RX10 40 RX10 yX10_skipBlanks wsX10_skipBlanks) := goodIn_app (goodIn_of _ (by decide +kernel)) ggX10_scan_X10_skipBlanks
theorem k_X10_scan_f17 : Cond.fieldLink RX10 17 "TideLots$Tape" "signs" "[LTideLots$Sign;" ∈ wsX10_scan := by decide +kernel
theorem i_X10_scan_X10 : ∀ w ∈ u_ws RX10 TX10 6, w ∈ wsX10_scan := by decide +kernel
theorem k_X10_scan_f29 : Cond.fieldLink RX10 29 "TideLots$Sign" "END" "LTideLots$Sign;" ∈ wsX10_scan := by decide +kernel
theorem k_X10_scan_f47 : Cond.fieldLink RX10 47 "TideLots$Sign" "NO_TOKEN" "LTideLots$Sign;" ∈ wsX10_scan := by decide +kernel
theorem k_X10_scan_f21 : Cond.fieldLink RX10 21 "TideLots$Tape" "starts" "[I" ∈ wsX10_scan := by decide +kernel
theorem k_X10_scan_f37 : Cond.fieldLink RX10 37 "TideLots$Tape" "end" "I" ∈ wsX10_scan := by decide +kernel
theorem k_X10_scan_f33 : Cond.fieldLink RX10 33 "TideLots$Tape" "length" "I" ∈ wsX10_scan := by decide +kernel
abbrev rX10_scan : Room := { frames := 8, cells := 0, slots := 0, locals := 182 }
noncomputable def b_X10_scan_87 (Z : Nat → Nat) (M : gMem)  : Option (Unit × gMem) :=
  some ((), M)
noncomputable def b_X10_scan_62 (Z : Nat → Nat) (M : gMem) (x0 : Nat) (x1 : Int32) (s0 : Option Nat) (s1 : Int32) (s2 : Option Nat) : Option ((gMem × Int32) ⊕ (Unit × gMem)) :=
  dr s0 fun a1 => ck (mT M a1 = 27) <| ck (inb s1 (mL M a1)) <| dr (ordZ Z s2) fun o4 => lw (wR M a1 s1.toNatClampNeg s2) fun M5 => ck (mT M5 x0 = 9) <| dr ((mR M5 x0 2)) fun a8 => ck (mT M5 a8 = 27) <| ck (inb x1 (mL M5 a8)) <| (if (mR M5 a8 x1.toNatClampNeg) = (some (Z 42)) then oI (b_X10_scan_87 Z M5 ) else ck (inb x1 (mL M5 a8)) <| (if (mR M5 a8 x1.toNatClampNeg) = (some (Z 43)) then oI (b_X10_scan_87 Z M5 ) else some (.inl (M5, (x1 + (1 : Int32))))))
noncomputable def b_X10_scan_51 (Z : Nat → Nat) (M : gMem) (x0 : Nat) (x1 : Int32) (s0 : Option Nat) (s1 : Int32) : Option ((gMem × Int32) ⊕ (Unit × gMem)) :=
  ck (mT M x0 = 9) <| bd (f_X10_scanToken Z M x0 x1) fun r14 M14 => b_X10_scan_62 Z M14 x0 x1 s0 s1 r14
noncomputable def bb_X10_scan_7 (Z : Nat → Nat) (M : gMem) (x0 : Nat) (x1 : Int32) : Option ((gMem × Int32) ⊕ (Unit × gMem)) :=
  (if (400 : Int32) < x1 then oI (some ((), M)) else ck (mT M x0 = 9) <| bd (f_X10_skipBlanks M x0) fun _ M17 => ck (mT M17 x0 = 9) <| dr ((mR M17 x0 3)) fun a20 => ck (mT M17 a20 = 20) <| ck (inb x1 (mL M17 a20)) <| lw (wI M17 a20 x1.toNatClampNeg ((mI M17 x0 5))) fun M23 => (if x1 < (400 : Int32) then b_X10_scan_51 Z M23 x0 x1 ((mR M23 x0 2)) x1 else (if (mI M23 x0 5) < (mI M23 x0 0) then b_X10_scan_62 Z M23 x0 x1 ((mR M23 x0 2)) x1 ((some (Z 43))) else b_X10_scan_51 Z M23 x0 x1 ((mR M23 x0 2)) x1)))
noncomputable def lp_X10_scan_7 (Z : Nat → Nat) (M : gMem) (x0 : Nat) (x1 : Int32) : Option (Unit × gMem) :=
  lp (fun (q : gMem × Int32) => bb_X10_scan_7 Z q.1 x0 q.2) (M, x1)
noncomputable def b_X10_scan_0 (Z : Nat → Nat) (M : gMem) (x0 : Nat) : Option (Unit × gMem) :=
  ck (mT M x0 = 9) <| lw (wI M x0 5 ((0 : Int32))) fun M27 => lp_X10_scan_7 Z M27 x0 ((0 : Int32))
noncomputable def f_X10_scan (Z : Nat → Nat) (M : gMem) (x0 : Nat) : Option (Unit × gMem) :=
  b_X10_scan_0 Z M x0
set_option maxHeartbeats 4000000 in
set_option maxRecDepth 100000 in
theorem t_X10_scan_87 (X : gX p s m args meth c D cy B (gSt Z B H0) RX10 cX10_scan wsX10_scan 2) (hr : meth.sig.returnType = none) {Q : State → Prop} : ∀ (M : gMem)  (z : Unit × gMem), b_X10_scan_87 Z M  = some z → (fun (r : Unit × gMem) => Q = gMQ below D cy B H0 args s 0 0 none r.2) z → gGo p l e rX10_scan s m args below meth c D cy B H0 2 0 0 Q 87 [] [] M := by
  intro M  z hf hK
  unfold b_X10_scan_87 at hf
  cases hf
  refine g_eqQ hK ?_
  exact g_vret X hr dX10_scan_87
set_option maxHeartbeats 4000000 in
set_option maxRecDepth 100000 in
theorem t_X10_scan_62 (X : gX p s m args meth c D cy B (gSt Z B H0) RX10 cX10_scan wsX10_scan 2) (hr : meth.sig.returnType = none) {Q : State → Prop} : ∀ (M : gMem) (x0 : Nat) (x1 : Int32) (s0 : Option Nat) (s1 : Int32) (s2 : Option Nat) (z : (gMem × Int32) ⊕ (Unit × gMem)), b_X10_scan_62 Z M x0 x1 s0 s1 s2 = some z → (Sum.elim (fun (q : gMem × Int32) => gGo p l e rX10_scan s m args below meth c D cy B H0 2 0 0 Q 7 [(0, vR (some x0)), (1, vI q.2)] [] q.1) (fun (r : Unit × gMem) => Q = gMQ below D cy B H0 args s 0 0 none r.2)) z → gGo p l e rX10_scan s m args below meth c D cy B H0 2 0 0 Q 62 [(0, vR (some x0)), (1, vI x1)] [vR s2, vI s1, vR s0] M := by
  intro M x0 x1 s0 s1 s2 z hf hK
  unfold b_X10_scan_62 at hf
  obtain ⟨a1, ha1, hf⟩ := dr_e hf
  obtain ⟨hT2, hf⟩ := ck_e hf
  obtain ⟨hg3, hf⟩ := ck_e hf
  obtain ⟨o4, ho4, hf⟩ := dr_e hf
  refine g_aastE X dX10_scan_62 ha1 hT2 hg3 (ordZ_eq ho4) (ordZ_lt ho4) ?_
  obtain ⟨M5, hM5, hf⟩ := lw_e hf
  rw [← hM5]
  have hT6 : mT M5 a1 = 27 := by rw [hM5]; exact hT2
  refine g_aload_n X dX10_scan_63 rfl rfl ?_
  obtain ⟨hT7, hf⟩ := ck_e hf
  refine g_get (ci := 8) (v := vR (mR M5 x0 2)) 2 X cdX10 i_X10_scan_X10 (by decide) k_X10_scan_f17 rfl dX10_scan_64 rfl hT7 rfl ?_
  refine g_iload_n X dX10_scan_67 rfl rfl ?_
  obtain ⟨a8, ha8, hf⟩ := dr_e hf
  obtain ⟨hT9, hf⟩ := ck_e hf
  obtain ⟨hg10, hf⟩ := ck_e hf
  refine g_aald (t0 := 7) X dX10_scan_68 ha8 hT9 (by decide) rfl hg10 ?_
  refine g_gets (w := vR (some (Z 42))) X (gSt_E X 42 (by decide)) k_X10_scan_f29 rfl dX10_scan_69 ?_
  refine g_acmp_eq (tgt := 87) X dX10_scan_72 (by decide) (fun hc => ?_) (fun hc => ?_)
  · have hf := ife_t hc hf
    obtain ⟨w11, hw11, hz11⟩ := oI_e hf
    subst hz11
    have hf := hw11
    refine g_sub (lvsub_of _ _ [] rfl) ?_
    exact t_X10_scan_87 X hr _  _ hf hK
  · have hf := ife_f hc hf
    refine g_aload_n X dX10_scan_75 rfl rfl ?_
    refine g_get (ci := 8) (v := vR (mR M5 x0 2)) 2 X cdX10 i_X10_scan_X10 (by decide) k_X10_scan_f17 rfl dX10_scan_76 rfl hT7 rfl ?_
    refine g_iload_n X dX10_scan_79 rfl rfl ?_
    obtain ⟨hg12, hf⟩ := ck_e hf
    refine g_aald (t0 := 7) X dX10_scan_80 ha8 hT9 (by decide) rfl hg12 ?_
    refine g_gets (w := vR (some (Z 43))) X (gSt_E X 43 (by decide)) k_X10_scan_f47 rfl dX10_scan_81 ?_
    refine g_acmp_ne (tgt := 88) X dX10_scan_84 (by decide) (fun hc => ?_) (fun hc => ?_)
    · have hf := ife_f hc hf
      refine g_iinc (v := (1 : Int32)) (lv' := [(1, vI (x1 + (1 : Int32))), (0, vR (some x0))]) X dX10_scan_88 rfl (by decide) (by decide) rfl ?_
      refine g_goto (tgt := 7) X dX10_scan_91 (by decide) ?_
      cases hf
      refine g_sub (lvsub_of _ _ [1, 0] rfl) ?_
      exact hK
    · have hf := ife_t hc hf
      obtain ⟨w13, hw13, hz13⟩ := oI_e hf
      subst hz13
      have hf := hw13
      refine g_sub (lvsub_of _ _ [] rfl) ?_
      exact t_X10_scan_87 X hr _  _ hf hK
set_option maxHeartbeats 4000000 in
set_option maxRecDepth 100000 in
theorem t_X10_scan_51 (X : gX p s m args meth c D cy B (gSt Z B H0) RX10 cX10_scan wsX10_scan 2) (hr : meth.sig.returnType = none) {Q : State → Prop} : ∀ (M : gMem) (x0 : Nat) (x1 : Int32) (s0 : Option Nat) (s1 : Int32) (z : (gMem × Int32) ⊕ (Unit × gMem)), b_X10_scan_51 Z M x0 x1 s0 s1 = some z → (Sum.elim (fun (q : gMem × Int32) => gGo p l e rX10_scan s m args below meth c D cy B H0 2 0 0 Q 7 [(0, vR (some x0)), (1, vI q.2)] [] q.1) (fun (r : Unit × gMem) => Q = gMQ below D cy B H0 args s 0 0 none r.2)) z → gGo p l e rX10_scan s m args below meth c D cy B H0 2 0 0 Q 51 [(0, vR (some x0)), (1, vI x1)] [vI s1, vR s0] M := by
  intro M x0 x1 s0 s1 z hf hK
  unfold b_X10_scan_51 at hf
  refine g_aload_n X dX10_scan_51 rfl rfl ?_
  refine g_iload_n X dX10_scan_52 rfl rfl ?_
  obtain ⟨hT15, hf⟩ := ck_e hf
  obtain ⟨r14, M14, hq14, hf⟩ := bd_e hf
  refine g_callV (ci := 8) (b := x0) (As := [vI x1]) (st := [vI s1, vR s0]) (v := some (vR r14)) (M1 := M14) X (m_X10_scanToken l hq14) (cwV 1 X.2.2.1 gX10_scan_X10_scanToken rfl rfl rfl (by decide +kernel) ⟨Nat.le_of_ble_eq_true rfl, Nat.le_of_ble_eq_true rfl⟩) rfl rfl rfl hT15 (by decide) rfl (Nat.le_of_ble_eq_true rfl) dX10_scan_53 ⟨by decide, by decide⟩ ?_
  refine g_goto (tgt := 62) X dX10_scan_56 (by decide) ?_
  refine g_sub (lvsub_of _ _ [0, 1] rfl) ?_
  exact t_X10_scan_62 X hr _ _ _ _ _ _ _ hf hK
set_option maxHeartbeats 4000000 in
set_option maxRecDepth 100000 in
theorem tb_X10_scan_7 (X : gX p s m args meth c D cy B (gSt Z B H0) RX10 cX10_scan wsX10_scan 2) (hr : meth.sig.returnType = none) {Q : State → Prop} : ∀ (M : gMem) (x0 : Nat) (x1 : Int32) (z : (gMem × Int32) ⊕ (Unit × gMem)), bb_X10_scan_7 Z M x0 x1 = some z → (Sum.elim (fun (q : gMem × Int32) => gGo p l e rX10_scan s m args below meth c D cy B H0 2 0 0 Q 7 [(0, vR (some x0)), (1, vI q.2)] [] q.1) (fun (r : Unit × gMem) => Q = gMQ below D cy B H0 args s 0 0 none r.2)) z → gGo p l e rX10_scan s m args below meth c D cy B H0 2 0 0 Q 7 [(0, vR (some x0)), (1, vI x1)] [] M := by
  intro M x0 x1 z hf hK
  unfold bb_X10_scan_7 at hf
  refine g_iload_n X dX10_scan_7 rfl rfl ?_
  refine g_sipush (v := (400 : Int32)) X dX10_scan_8 (by decide) ?_
  refine g_icmp_gt (tgt := 94) X dX10_scan_11 (by decide) (fun hc => ?_) (fun hc => ?_)
  · have hf := ife_t hc hf
    obtain ⟨w16, hw16, hz16⟩ := oI_e hf
    subst hz16
    have hf := hw16
    cases hf
    refine g_eqQ hK ?_
    exact g_vret X hr dX10_scan_94
  · have hf := ife_f hc hf
    refine g_aload_n X dX10_scan_14 rfl rfl ?_
    obtain ⟨hT18, hf⟩ := ck_e hf
    obtain ⟨r17, M17, hq17, hf⟩ := bd_e hf
    refine g_callV (ci := 8) (b := x0) (As := []) (st := []) (v := none) (M1 := M17) X (m_X10_skipBlanks l hq17) (cwV 0 X.2.2.1 gX10_scan_X10_skipBlanks rfl rfl rfl (by decide +kernel) ⟨Nat.le_of_ble_eq_true rfl, Nat.le_of_ble_eq_true rfl⟩) rfl rfl rfl hT18 (by decide) rfl (Nat.le_of_ble_eq_true rfl) dX10_scan_15 ⟨by decide, by decide⟩ ?_
    refine g_aload_n X dX10_scan_18 rfl rfl ?_
    obtain ⟨hT19, hf⟩ := ck_e hf
    refine g_get (ci := 8) (v := vR (mR M17 x0 3)) 3 X cdX10 i_X10_scan_X10 (by decide) k_X10_scan_f21 rfl dX10_scan_19 rfl hT19 rfl ?_
    refine g_iload_n X dX10_scan_22 rfl rfl ?_
    refine g_aload_n X dX10_scan_23 rfl rfl ?_
    refine g_get (ci := 8) (v := vI (mI M17 x0 5)) 5 X cdX10 i_X10_scan_X10 (by decide) k_X10_scan_f37 rfl dX10_scan_24 rfl hT19 rfl ?_
    obtain ⟨a20, ha20, hf⟩ := dr_e hf
    obtain ⟨hT21, hf⟩ := ck_e hf
    obtain ⟨hg22, hf⟩ := ck_e hf
    refine g_iast X dX10_scan_27 ha20 hT21 hg22 ?_
    obtain ⟨M23, hM23, hf⟩ := lw_e hf
    rw [← hM23]
    have hT24 : mT M23 x0 = 9 := by rw [hM23]; exact hT19
    have hT25 : mT M23 a20 = 20 := by rw [hM23]; exact hT21
    refine g_aload_n X dX10_scan_28 rfl rfl ?_
    refine g_get (ci := 8) (v := vR (mR M23 x0 2)) 2 X cdX10 i_X10_scan_X10 (by decide) k_X10_scan_f17 rfl dX10_scan_29 rfl hT24 rfl ?_
    refine g_iload_n X dX10_scan_32 rfl rfl ?_
    refine g_iload_n X dX10_scan_33 rfl rfl ?_
    refine g_sipush (v := (400 : Int32)) X dX10_scan_34 (by decide) ?_
    refine g_icmp_lt (tgt := 51) X dX10_scan_37 (by decide) (fun hc => ?_) (fun hc => ?_)
    · have hf := ife_t hc hf
      refine g_sub (lvsub_of _ _ [0, 1] rfl) ?_
      exact t_X10_scan_51 X hr _ _ _ _ _ _ hf hK
    · have hf := ife_f hc hf
      refine g_aload_n X dX10_scan_40 rfl rfl ?_
      refine g_get (ci := 8) (v := vI (mI M23 x0 5)) 5 X cdX10 i_X10_scan_X10 (by decide) k_X10_scan_f37 rfl dX10_scan_41 rfl hT24 rfl ?_
      refine g_aload_n X dX10_scan_44 rfl rfl ?_
      refine g_get (ci := 8) (v := vI (mI M23 x0 0)) 0 X cdX10 i_X10_scan_X10 (by decide) k_X10_scan_f33 rfl dX10_scan_45 rfl hT24 rfl ?_
      refine g_icmp_lt (tgt := 59) X dX10_scan_48 (by decide) (fun hc => ?_) (fun hc => ?_)
      · have hf := ife_t hc hf
        refine g_gets (w := vR (some (Z 43))) X (gSt_E X 43 (by decide)) k_X10_scan_f47 rfl dX10_scan_59 ?_
        refine g_sub (lvsub_of _ _ [0, 1] rfl) ?_
        exact t_X10_scan_62 X hr _ _ _ _ _ _ _ hf hK
      · have hf := ife_f hc hf
        refine g_sub (lvsub_of _ _ [0, 1] rfl) ?_
        exact t_X10_scan_51 X hr _ _ _ _ _ _ hf hK
set_option maxHeartbeats 4000000 in
set_option maxRecDepth 100000 in
theorem tl_X10_scan_7 (X : gX p s m args meth c D cy B (gSt Z B H0) RX10 cX10_scan wsX10_scan 2) (hr : meth.sig.returnType = none) {Q : State → Prop} : ∀ (M : gMem) (x0 : Nat) (x1 : Int32) (z : Unit × gMem), lp_X10_scan_7 Z M x0 x1 = some z → (fun (r : Unit × gMem) => Q = gMQ below D cy B H0 args s 0 0 none r.2) z → gGo p l e rX10_scan s m args below meth c D cy B H0 2 0 0 Q 7 [(0, vR (some x0)), (1, vI x1)] [] M := by
  intro M x0 x1 z hf hK
  refine lp_ind (P := (fun (q : gMem × Int32) (z : Unit × gMem) => (fun (r : Unit × gMem) => Q = gMQ below D cy B H0 args s 0 0 none r.2) z → gGo p l e rX10_scan s m args below meth c D cy B H0 2 0 0 Q 7 [(0, vR (some x0)), (1, vI q.2)] [] q.1)) (fun q z hq => ?_) _ _ hf hK
  intro hK
  obtain ⟨w, hw, hm⟩ := hq
  refine tb_X10_scan_7 X hr _ _ _ w hw ?_
  cases w with
  | inl a => exact hm hK
  | inr b => cases hm; exact hK
set_option maxHeartbeats 4000000 in
set_option maxRecDepth 100000 in
theorem t_X10_scan_0 (X : gX p s m args meth c D cy B (gSt Z B H0) RX10 cX10_scan wsX10_scan 2) (hr : meth.sig.returnType = none) {Q : State → Prop} : ∀ (M : gMem) (x0 : Nat) (z : Unit × gMem), b_X10_scan_0 Z M x0 = some z → (fun (r : Unit × gMem) => Q = gMQ below D cy B H0 args s 0 0 none r.2) z → gGo p l e rX10_scan s m args below meth c D cy B H0 2 0 0 Q 0 [(0, vR (some x0))] [] M := by
  intro M x0 z hf hK
  unfold b_X10_scan_0 at hf
  refine g_aload_n X dX10_scan_0 rfl rfl ?_
  refine g_iconst (v := (0 : Int32)) X dX10_scan_1 (by decide) ?_
  obtain ⟨hT26, hf⟩ := ck_e hf
  refine g_putI (ci := 8) 5 X cdX10 i_X10_scan_X10 (by decide) k_X10_scan_f37 rfl dX10_scan_2 rfl hT26 (Or.inl rfl) rfl rfl rfl ?_
  obtain ⟨M27, hM27, hf⟩ := lw_e hf
  rw [← hM27]
  have hT28 : mT M27 x0 = 9 := by rw [hM27]; exact hT26
  refine g_iconst (v := (0 : Int32)) X dX10_scan_5 (by decide) ?_
  refine g_istore_n (lv' := [(1, vI (0 : Int32)), (0, vR (some x0))]) X dX10_scan_6 rfl (by decide) rfl ?_
  refine g_sub (lvsub_of _ _ [1, 0] rfl) ?_
  exact tl_X10_scan_7 X hr _ _ _ _ hf hK
set_option maxHeartbeats 4000000 in
set_option maxRecDepth 100000 in
theorem m_X10_scan (l : Launch) {D : va_G} {cy : Nat → ClassId} {B : Nat} {H0 : Heap} {Z : Nat → Nat} {M M1 : gMem} {x0 : Nat} {r : Unit} (hf : f_X10_scan Z M x0 = some (r, M1)) : Met l yX10_scan wsX10_scan rX10_scan (va_Pc (Value.ref x0 :: List.map gv []) (gPre D cy B H0 (gSt Z B H0) M)) (gQ D cy B H0 none M1) 0 0 (gA B) := by
  refine Met.ofW (cc := cX10_scan) (maxL := 2) (ret := none) (by decide) rfl ?_
  intro p e s m args below meth c s₁ Bd hml hv
  obtain ⟨rfl, hW, hKK, hFs⟩ := hv
  have X : gX p s m _ meth c D cy B (gSt Z B H0) RX10 cX10_scan wsX10_scan 2 := ⟨Bd.exec, Bd.bytes, atoms_spec (ws := wsX10_scan) Bd.pre, findClass_of_methodNamed Bd.named, hml, hKK, by rw [hW.1]; exact hW.2.1, Bd.notSynchronized, hFs⟩
  have hr := Bd.returns
  have hl := lv_entry ([.ref x0]) (n := 2) (Nat.le_of_ble_eq_true rfl)
  show W p l e rX10_scan s m _ below meth c s.heap [] 0 0 _ (entryFrame m ([.ref x0] : List Value).toArray 2)
  rw [lg_entry_eq]
  generalize (lg_sl ([.ref x0]) ++ List.replicate (2 - (lg_sl ([.ref x0])).length) Slot.unset).toArray = ls at hl ⊢
  have hl : lv_has ls 2 (List.map gq [(0, vR (some x0))]) := hl
  exact t_X10_scan_0 X hr _ _ _ hf rfl s.heap [] ls hW va_S.rf (lv_has_sub hl (lvsub_of _ _ [0] rfl))
end
