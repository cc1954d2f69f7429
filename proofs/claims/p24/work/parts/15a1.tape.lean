section
variable {p : Program} {l : Launch} {e : Env} {s : State} {m : MethodId} {args : Array Value} {below : List Frame} {meth : Method} {c : Code} {D : va_G} {cy : Nat → ClassId} {B : Nat} {H0 : Heap} {Z : Nat → Nat}
/-! ## TideLots$Tape.append(I)V -/
theorem dX10_append_0 : decode cX10_append 0 = .ok (.bipush 24, 2) := by decide +kernel
theorem dX10_append_2 : decode cX10_append 2 = .ok (.istore_n 2, 1) := by decide +kernel
theorem dX10_append_3 : decode cX10_append 3 = .ok (.iload_n 2, 1) := by decide +kernel
theorem dX10_append_4 : decode cX10_append 4 = .ok (.ifCond .lt 44, 3) := by decide +kernel
theorem dX10_append_7 : decode cX10_append 7 = .ok (.aload_n 0, 1) := by decide +kernel
theorem dX10_append_8 : decode cX10_append 8 = .ok (.getfield 33, 3) := by decide +kernel
theorem dX10_append_11 : decode cX10_append 11 = .ok (.aload_n 0, 1) := by decide +kernel
theorem dX10_append_12 : decode cX10_append 12 = .ok (.getfield 9, 3) := by decide +kernel
theorem dX10_append_15 : decode cX10_append 15 = .ok (.arraylength, 1) := by decide +kernel
theorem dX10_append_16 : decode cX10_append 16 = .ok (.if_icmp .ge 26, 3) := by decide +kernel
theorem dX10_append_19 : decode cX10_append 19 = .ok (.aload_n 0, 1) := by decide +kernel
theorem dX10_append_20 : decode cX10_append 20 = .ok (.getfield 9, 3) := by decide +kernel
theorem dX10_append_23 : decode cX10_append 23 = .ok (.aload_n 0, 1) := by decide +kernel
theorem dX10_append_24 : decode cX10_append 24 = .ok (.getfield 33, 3) := by decide +kernel
theorem dX10_append_27 : decode cX10_append 27 = .ok (.iload_n 1, 1) := by decide +kernel
theorem dX10_append_28 : decode cX10_append 28 = .ok (.iload_n 2, 1) := by decide +kernel
theorem dX10_append_29 : decode cX10_append 29 = .ok (.iushr, 1) := by decide +kernel
theorem dX10_append_30 : decode cX10_append 30 = .ok (.i2b, 1) := by decide +kernel
theorem dX10_append_31 : decode cX10_append 31 = .ok (.bastore, 1) := by decide +kernel
theorem dX10_append_32 : decode cX10_append 32 = .ok (.aload_n 0, 1) := by decide +kernel
theorem dX10_append_33 : decode cX10_append 33 = .ok (.dup, 1) := by decide +kernel
theorem dX10_append_34 : decode cX10_append 34 = .ok (.getfield 33, 3) := by decide +kernel
theorem dX10_append_37 : decode cX10_append 37 = .ok (.iconst 1, 1) := by decide +kernel
theorem dX10_append_38 : decode cX10_append 38 = .ok (.iadd, 1) := by decide +kernel
theorem dX10_append_39 : decode cX10_append 39 = .ok (.putfield 33, 3) := by decide +kernel
theorem dX10_append_42 : decode cX10_append 42 = .ok (.iinc 2 (-8), 3) := by decide +kernel
theorem dX10_append_45 : decode cX10_append 45 = .ok (.goto (-42), 3) := by decide +kernel
theorem dX10_append_48 : decode cX10_append 48 = .ok (.return_, 1) := by decide +kernel
theorem k_X10_append_f33 : Cond.fieldLink RX10 33 "TideLots$Tape" "length" "I" ∈ wsX10_append := by decide +kernel
theorem i_X10_append_X10 : ∀ w ∈ u_ws RX10 TX10 6, w ∈ wsX10_append := by decide +kernel
theorem k_X10_append_f9 : Cond.fieldLink RX10 9 "TideLots$Tape" "bytes" "[B" ∈ wsX10_append := by decide +kernel
abbrev rX10_append : Room := { frames := 0, cells := 0, slots := 0, locals := 0 }
noncomputable def b_X10_append_42 (M : gMem) (x0 : Nat) (x1 : Int32) (x2 : Int32) : Option ((gMem × Int32) ⊕ (Unit × gMem)) :=
  some (.inl (M, (x2 + (-8 : Int32))))
noncomputable def bb_X10_append_3 (M : gMem) (x0 : Nat) (x1 : Int32) (x2 : Int32) : Option ((gMem × Int32) ⊕ (Unit × gMem)) :=
  (if x2 < 0 then oI (some ((), M)) else ck (mT M x0 = 9) <| dr ((mR M x0 1)) fun a3 => ck (mT M a3 = 22) <| (if (Int32.ofNat (mL M a3)) ≤ (mI M x0 0) then b_X10_append_42 M x0 x1 x2 else ck (inb (mI M x0 0) (mL M a3)) <| lw (wI M a3 ((mI M x0 0)).toNatClampNeg (vp_nar .byte ((i2bV ((ushr x1 x2)))))) fun M6 => lw (wI M6 x0 0 (((mI M6 x0 0) + (1 : Int32)))) fun M9 => b_X10_append_42 M9 x0 x1 x2))
noncomputable def lp_X10_append_3 (M : gMem) (x0 : Nat) (x1 : Int32) (x2 : Int32) : Option (Unit × gMem) :=
  lp (fun (q : gMem × Int32) => bb_X10_append_3 q.1 x0 x1 q.2) (M, x2)
noncomputable def b_X10_append_0 (M : gMem) (x0 : Nat) (x1 : Int32) : Option (Unit × gMem) :=
  lp_X10_append_3 M x0 x1 ((24 : Int32))
noncomputable def f_X10_append (M : gMem) (x0 : Nat) (x1 : Int32) : Option (Unit × gMem) :=
  b_X10_append_0 M x0 x1
set_option maxHeartbeats 4000000 in
set_option maxRecDepth 100000 in
theorem t_X10_append_42 (X : gX p s m args meth c D cy B (gSt Z B H0) RX10 cX10_append wsX10_append 3) (hr : meth.sig.returnType = none) {Q : State → Prop} : ∀ (M : gMem) (x0 : Nat) (x1 : Int32) (x2 : Int32) (z : (gMem × Int32) ⊕ (Unit × gMem)), b_X10_append_42 M x0 x1 x2 = some z → (Sum.elim (fun (q : gMem × Int32) => gGo p l e rX10_append s m args below meth c D cy B H0 3 0 0 Q 3 [(0, vR (some x0)), (1, vI x1), (2, vI q.2)] [] q.1) (fun (r : Unit × gMem) => Q = gMQ below D cy B H0 args s 0 0 none r.2)) z → gGo p l e rX10_append s m args below meth c D cy B H0 3 0 0 Q 42 [(0, vR (some x0)), (1, vI x1), (2, vI x2)] [] M := by
  intro M x0 x1 x2 z hf hK
  unfold b_X10_append_42 at hf
  refine g_iinc (v := (-8 : Int32)) (lv' := [(2, vI (x2 + (-8 : Int32))), (0, vR (some x0)), (1, vI x1)]) X dX10_append_42 rfl (by decide) (by decide) rfl ?_
  refine g_goto (tgt := 3) X dX10_append_45 (by decide) ?_
  cases hf
  refine g_sub (lvsub_of _ _ [1, 2, 0] rfl) ?_
  exact hK
set_option maxHeartbeats 4000000 in
set_option maxRecDepth 100000 in
theorem tb_X10_append_3 (X : gX p s m args meth c D cy B (gSt Z B H0) RX10 cX10_append wsX10_append 3) (hr : meth.sig.returnType = none) {Q : State → Prop} : ∀ (M : gMem) (x0 : Nat) (x1 : Int32) (x2 : Int32) (z : (gMem × Int32) ⊕ (Unit × gMem)), bb_X10_append_3 M x0 x1 x2 = some z → (Sum.elim (fun (q : gMem × Int32) => gGo p l e rX10_append s m args below meth c D cy B H0 3 0 0 Q 3 [(0, vR (some x0)), (1, vI x1), (2, vI q.2)] [] q.1) (fun (r : Unit × gMem) => Q = gMQ below D cy B H0 args s 0 0 none r.2)) z → gGo p l e rX10_append s m args below meth c D cy B H0 3 0 0 Q 3 [(0, vR (some x0)), (1, vI x1), (2, vI x2)] [] M := by
  intro M x0 x1 x2 z hf hK
  unfold bb_X10_append_3 at hf
  refine g_iload_n X dX10_append_3 rfl rfl ?_
  refine g_if_lt (tgt := 48) X dX10_append_4 (by decide) (fun hc => ?_) (fun hc => ?_)
  · have hf := ife_t hc hf
    obtain ⟨w1, hw1, hz1⟩ := oI_e hf
    subst hz1
    have hf := hw1
    cases hf
    refine g_eqQ hK ?_
    exact g_vret X hr dX10_append_48
  · have hf := ife_f hc hf
    refine g_aload_n X dX10_append_7 rfl rfl ?_
    obtain ⟨hT2, hf⟩ := ck_e hf
    refine g_get (ci := 8) (v := vI (mI M x0 0)) 0 X cdX10 i_X10_append_X10 (by decide) k_X10_append_f33 rfl dX10_append_8 rfl hT2 rfl ?_
    refine g_aload_n X dX10_append_11 rfl rfl ?_
    refine g_get (ci := 8) (v := vR (mR M x0 1)) 1 X cdX10 i_X10_append_X10 (by decide) k_X10_append_f9 rfl dX10_append_12 rfl hT2 rfl ?_
    obtain ⟨a3, ha3, hf⟩ := dr_e hf
    obtain ⟨hT4, hf⟩ := ck_e hf
    refine g_alen (t0 := 2) X dX10_append_15 ha3 hT4 (by decide) rfl ?_
    refine g_icmp_ge (tgt := 42) X dX10_append_16 (by decide) (fun hc => ?_) (fun hc => ?_)
    · have hf := ife_t hc hf
      refine g_sub (lvsub_of _ _ [0, 1, 2] rfl) ?_
      exact t_X10_append_42 X hr _ _ _ _ _ hf hK
    · have hf := ife_f hc hf
      refine g_aload_n X dX10_append_19 rfl rfl ?_
      refine g_get (ci := 8) (v := vR (mR M x0 1)) 1 X cdX10 i_X10_append_X10 (by decide) k_X10_append_f9 rfl dX10_append_20 rfl hT2 rfl ?_
      refine g_aload_n X dX10_append_23 rfl rfl ?_
      refine g_get (ci := 8) (v := vI (mI M x0 0)) 0 X cdX10 i_X10_append_X10 (by decide) k_X10_append_f33 rfl dX10_append_24 rfl hT2 rfl ?_
      refine g_iload_n X dX10_append_27 rfl rfl ?_
      refine g_iload_n X dX10_append_28 rfl rfl ?_
      refine g_iushr X dX10_append_29 ?_
      refine g_i2b X dX10_append_30 ?_
      obtain ⟨hg5, hf⟩ := ck_e hf
      refine g_bast X dX10_append_31 ha3 hT4 hg5 ?_
      obtain ⟨M6, hM6, hf⟩ := lw_e hf
      rw [← hM6]
      have hT7 : mT M6 x0 = 9 := by rw [hM6]; exact hT2
      have hT8 : mT M6 a3 = 22 := by rw [hM6]; exact hT4
      refine g_aload_n X dX10_append_32 rfl rfl ?_
      refine g_dup X dX10_append_33 rfl ?_
      refine g_get (ci := 8) (v := vI (mI M6 x0 0)) 0 X cdX10 i_X10_append_X10 (by decide) k_X10_append_f33 rfl dX10_append_34 rfl hT7 rfl ?_
      refine g_iconst (v := (1 : Int32)) X dX10_append_37 (by decide) ?_
      refine g_iadd X dX10_append_38 ?_
      refine g_putI (ci := 8) 0 X cdX10 i_X10_append_X10 (by decide) k_X10_append_f33 rfl dX10_append_39 rfl hT7 (Or.inl rfl) rfl rfl rfl ?_
      obtain ⟨M9, hM9, hf⟩ := lw_e hf
      rw [← hM9]
      have hT10 : mT M9 x0 = 9 := by rw [hM9]; exact hT7
      have hT11 : mT M9 a3 = 22 := by rw [hM9]; exact hT8
      refine g_sub (lvsub_of _ _ [0, 1, 2] rfl) ?_
      exact t_X10_append_42 X hr _ _ _ _ _ hf hK
set_option maxHeartbeats 4000000 in
set_option maxRecDepth 100000 in
theorem tl_X10_append_3 (X : gX p s m args meth c D cy B (gSt Z B H0) RX10 cX10_append wsX10_append 3) (hr : meth.sig.returnType = none) {Q : State → Prop} : ∀ (M : gMem) (x0 : Nat) (x1 : Int32) (x2 : Int32) (z : Unit × gMem), lp_X10_append_3 M x0 x1 x2 = some z → (fun (r : Unit × gMem) => Q = gMQ below D cy B H0 args s 0 0 none r.2) z → gGo p l e rX10_append s m args below meth c D cy B H0 3 0 0 Q 3 [(0, vR (some x0)), (1, vI x1), (2, vI x2)] [] M := by
  intro M x0 x1 x2 z hf hK
  refine lp_ind (P := (fun (q : gMem × Int32) (z : Unit × gMem) => (fun (r : Unit × gMem) => Q = gMQ below D cy B H0 args s 0 0 none r.2) z → gGo p l e rX10_append s m args below meth c D cy B H0 3 0 0 Q 3 [(0, vR (some x0)), (1, vI x1), (2, vI q.2)] [] q.1)) (fun q z hq => ?_) _ _ hf hK
  intro hK
  obtain ⟨w, hw, hm⟩ := hq
  refine tb_X10_append_3 X hr _ _ _ _ w hw ?_
  cases w with
  | inl a => exact hm hK
  | inr b => cases hm; exact hK
set_option maxHeartbeats 4000000 in
set_option maxRecDepth 100000 in
theorem t_X10_append_0 (X : gX p s m args meth c D cy B (gSt Z B H0) RX10 cX10_append wsX10_append 3) (hr : meth.sig.returnType = none) {Q : State → Prop} : ∀ (M : gMem) (x0 : Nat) (x1 : Int32) (z : Unit × gMem), b_X10_append_0 M x0 x1 = some z → (fun (r : Unit × gMem) => Q = gMQ below D cy B H0 args s 0 0 none r.2) z → gGo p l e rX10_append s m args below meth c D cy B H0 3 0 0 Q 0 [(0, vR (some x0)), (1, vI x1)] [] M := by
  intro M x0 x1 z hf hK
  unfold b_X10_append_0 at hf
  refine g_bipush (v := (24 : Int32)) X dX10_append_0 (by decide) ?_
  refine g_istore_n (lv' := [(2, vI (24 : Int32)), (0, vR (some x0)), (1, vI x1)]) X dX10_append_2 rfl (by decide) rfl ?_
  refine g_sub (lvsub_of _ _ [1, 2, 0] rfl) ?_
  exact tl_X10_append_3 X hr _ _ _ _ _ hf hK
set_option maxHeartbeats 4000000 in
set_option maxRecDepth 100000 in
theorem m_X10_append (l : Launch) {D : va_G} {cy : Nat → ClassId} {B : Nat} {H0 : Heap} {Z : Nat → Nat} {M M1 : gMem} {x0 : Nat} {x1 : Int32} {r : Unit} (hf : f_X10_append M x0 x1 = some (r, M1)) : Met l yX10_append wsX10_append rX10_append (va_Pc (Value.ref x0 :: List.map gv [vI x1]) (gPre D cy B H0 (gSt Z B H0) M)) (gQ D cy B H0 none M1) 0 0 (gA B) := by
  refine Met.ofW (cc := cX10_append) (maxL := 3) (ret := none) (by decide) rfl ?_
  intro p e s m args below meth c s₁ Bd hml hv
  obtain ⟨rfl, hW, hKK, hFs⟩ := hv
  have X : gX p s m _ meth c D cy B (gSt Z B H0) RX10 cX10_append wsX10_append 3 := ⟨Bd.exec, Bd.bytes, atoms_spec (ws := wsX10_append) Bd.pre, findClass_of_methodNamed Bd.named, hml, hKK, by rw [hW.1]; exact hW.2.1, Bd.notSynchronized, hFs⟩
  have hr := Bd.returns
  have hl := lv_entry ([.ref x0, .int x1]) (n := 3) (Nat.le_of_ble_eq_true rfl)
  show W p l e rX10_append s m _ below meth c s.heap [] 0 0 _ (entryFrame m ([.ref x0, .int x1] : List Value).toArray 3)
  rw [lg_entry_eq]
  generalize (lg_sl ([.ref x0, .int x1]) ++ List.replicate (3 - (lg_sl ([.ref x0, .int x1])).length) Slot.unset).toArray = ls at hl ⊢
  have hl : lv_has ls 3 (List.map gq [(0, vR (some x0)), (1, vI x1)]) := hl
  exact t_X10_append_0 X hr _ _ _ _ hf rfl s.heap [] ls hW va_S.rf (lv_has_sub hl (lvsub_of _ _ [0, 1] rfl))
/-! ## TideLots$Tape.at(I)I -/
theorem dX10_at_0 : decode cX10_at 0 = .ok (.iload_n 1, 1) := by decide +kernel
theorem dX10_at_1 : decode cX10_at 1 = .ok (.ifCond .lt 20, 3) := by decide +kernel
theorem dX10_at_4 : decode cX10_at 4 = .ok (.iload_n 1, 1) := by decide +kernel
theorem dX10_at_5 : decode cX10_at 5 = .ok (.aload_n 0, 1) := by decide +kernel
theorem dX10_at_6 : decode cX10_at 6 = .ok (.getfield 33, 3) := by decide +kernel
theorem dX10_at_9 : decode cX10_at 9 = .ok (.if_icmp .ge 12, 3) := by decide +kernel
theorem dX10_at_12 : decode cX10_at 12 = .ok (.aload_n 0, 1) := by decide +kernel
theorem dX10_at_13 : decode cX10_at 13 = .ok (.getfield 9, 3) := by decide +kernel
theorem dX10_at_16 : decode cX10_at 16 = .ok (.iload_n 1, 1) := by decide +kernel
theorem dX10_at_17 : decode cX10_at 17 = .ok (.baload, 1) := by decide +kernel
theorem dX10_at_18 : decode cX10_at 18 = .ok (.goto 4, 3) := by decide +kernel
theorem dX10_at_21 : decode cX10_at 21 = .ok (.iconst 0, 1) := by decide +kernel
theorem dX10_at_22 : decode cX10_at 22 = .ok (.ireturn, 1) := by decide +kernel
theorem k_X10_at_f33 : Cond.fieldLink RX10 33 "TideLots$Tape" "length" "I" ∈ wsX10_at := by decide +kernel
theorem i_X10_at_X10 : ∀ w ∈ u_ws RX10 TX10 6, w ∈ wsX10_at := by decide +kernel
theorem k_X10_at_f9 : Cond.fieldLink RX10 9 "TideLots$Tape" "bytes" "[B" ∈ wsX10_at := by decide +kernel
abbrev rX10_at : Room := { frames := 0, cells := 0, slots := 0, locals := 0 }
noncomputable def b_X10_at_22 (M : gMem) (s0 : Int32) : Option (Int32 × gMem) :=
  some (s0, M)
noncomputable def b_X10_at_21 (M : gMem)  : Option (Int32 × gMem) :=
  b_X10_at_22 M ((0 : Int32))
noncomputable def b_X10_at_0 (M : gMem) (x0 : Nat) (x1 : Int32) : Option (Int32 × gMem) :=
  (if x1 < 0 then b_X10_at_21 M  else ck (mT M x0 = 9) <| (if (mI M x0 0) ≤ x1 then b_X10_at_21 M  else dr ((mR M x0 1)) fun a2 => ck (mT M a2 = 22) <| ck (inb x1 (mL M a2)) <| b_X10_at_22 M ((mI M a2 x1.toNatClampNeg))))
noncomputable def f_X10_at (M : gMem) (x0 : Nat) (x1 : Int32) : Option (Int32 × gMem) :=
  b_X10_at_0 M x0 x1
set_option maxHeartbeats 4000000 in
set_option maxRecDepth 100000 in
theorem t_X10_at_22 (X : gX p s m args meth c D cy B (gSt Z B H0) RX10 cX10_at wsX10_at 2) (hr : meth.sig.returnType = (some .int)) {Q : State → Prop} : ∀ (M : gMem) (s0 : Int32) (z : Int32 × gMem), b_X10_at_22 M s0 = some z → (fun (r : Int32 × gMem) => Q = gMQ below D cy B H0 args s 0 0 (some (vI r.1)) r.2) z → gGo p l e rX10_at s m args below meth c D cy B H0 2 0 0 Q 22 [] [vI s0] M := by
  intro M s0 z hf hK
  unfold b_X10_at_22 at hf
  cases hf
  refine g_eqQ hK ?_
  exact g_iret X hr dX10_at_22
set_option maxHeartbeats 4000000 in
set_option maxRecDepth 100000 in
theorem t_X10_at_21 (X : gX p s m args meth c D cy B (gSt Z B H0) RX10 cX10_at wsX10_at 2) (hr : meth.sig.returnType = (some .int)) {Q : State → Prop} : ∀ (M : gMem)  (z : Int32 × gMem), b_X10_at_21 M  = some z → (fun (r : Int32 × gMem) => Q = gMQ below D cy B H0 args s 0 0 (some (vI r.1)) r.2) z → gGo p l e rX10_at s m args below meth c D cy B H0 2 0 0 Q 21 [] [] M := by
  intro M  z hf hK
  unfold b_X10_at_21 at hf
  refine g_iconst (v := (0 : Int32)) X dX10_at_21 (by decide) ?_
  refine g_sub (lvsub_of _ _ [] rfl) ?_
  exact t_X10_at_22 X hr _ _ _ hf hK
set_option maxHeartbeats 4000000 in
set_option maxRecDepth 100000 in
theorem t_X10_at_0 (X : gX p s m args meth c D cy B (gSt Z B H0) RX10 cX10_at wsX10_at 2) (hr : meth.sig.returnType = (some .int)) {Q : State → Prop} : ∀ (M : gMem) (x0 : Nat) (x1 : Int32) (z : Int32 × gMem), b_X10_at_0 M x0 x1 = some z → (fun (r : Int32 × gMem) => Q = gMQ below D cy B H0 args s 0 0 (some (vI r.1)) r.2) z → gGo p l e rX10_at s m args below meth c D cy B H0 2 0 0 Q 0 [(0, vR (some x0)), (1, vI x1)] [] M := by
  intro M x0 x1 z hf hK
  unfold b_X10_at_0 at hf
  refine g_iload_n X dX10_at_0 rfl rfl ?_
  refine g_if_lt (tgt := 21) X dX10_at_1 (by decide) (fun hc => ?_) (fun hc => ?_)
  · have hf := ife_t hc hf
    refine g_sub (lvsub_of _ _ [] rfl) ?_
    exact t_X10_at_21 X hr _  _ hf hK
  · have hf := ife_f hc hf
    refine g_iload_n X dX10_at_4 rfl rfl ?_
    refine g_aload_n X dX10_at_5 rfl rfl ?_
    obtain ⟨hT1, hf⟩ := ck_e hf
    refine g_get (ci := 8) (v := vI (mI M x0 0)) 0 X cdX10 i_X10_at_X10 (by decide) k_X10_at_f33 rfl dX10_at_6 rfl hT1 rfl ?_
    refine g_icmp_ge (tgt := 21) X dX10_at_9 (by decide) (fun hc => ?_) (fun hc => ?_)
    · have hf := ife_t hc hf
      refine g_sub (lvsub_of _ _ [] rfl) ?_
      exact t_X10_at_21 X hr _  _ hf hK
    · have hf := ife_f hc hf
      refine g_aload_n X dX10_at_12 rfl rfl ?_
      refine g_get (ci := 8) (v := vR (mR M x0 1)) 1 X cdX10 i_X10_at_X10 (by decide) k_X10_at_f9 rfl dX10_at_13 rfl hT1 rfl ?_
      refine g_iload_n X dX10_at_16 rfl rfl ?_
      obtain ⟨a2, ha2, hf⟩ := dr_e hf
      obtain ⟨hT3, hf⟩ := ck_e hf
      obtain ⟨hg4, hf⟩ := ck_e hf
      refine g_bald X dX10_at_17 ha2 hT3 hg4 ?_
      refine g_goto (tgt := 22) X dX10_at_18 (by decide) ?_
      refine g_sub (lvsub_of _ _ [] rfl) ?_
      exact t_X10_at_22 X hr _ _ _ hf hK
set_option maxHeartbeats 4000000 in
set_option maxRecDepth 100000 in
theorem m_X10_at (l : Launch) {D : va_G} {cy : Nat → ClassId} {B : Nat} {H0 : Heap} {Z : Nat → Nat} {M M1 : gMem} {x0 : Nat} {x1 : Int32} {r : Int32} (hf : f_X10_at M x0 x1 = some (r, M1)) : Met l yX10_at wsX10_at rX10_at (va_Pc (Value.ref x0 :: List.map gv [vI x1]) (gPre D cy B H0 (gSt Z B H0) M)) (gQ D cy B H0 (some (vI r)) M1) 0 0 (gA B) := by
  refine Met.ofW (cc := cX10_at) (maxL := 2) (ret := (some .int)) (by decide) rfl ?_
  intro p e s m args below meth c s₁ Bd hml hv
  obtain ⟨rfl, hW, hKK, hFs⟩ := hv
  have X : gX p s m _ meth c D cy B (gSt Z B H0) RX10 cX10_at wsX10_at 2 := ⟨Bd.exec, Bd.bytes, atoms_spec (ws := wsX10_at) Bd.pre, findClass_of_methodNamed Bd.named, hml, hKK, by rw [hW.1]; exact hW.2.1, Bd.notSynchronized, hFs⟩
  have hr := Bd.returns
  have hl := lv_entry ([.ref x0, .int x1]) (n := 2) (Nat.le_of_ble_eq_true rfl)
  show W p l e rX10_at s m _ below meth c s.heap [] 0 0 _ (entryFrame m ([.ref x0, .int x1] : List Value).toArray 2)
  rw [lg_entry_eq]
  generalize (lg_sl ([.ref x0, .int x1]) ++ List.replicate (2 - (lg_sl ([.ref x0, .int x1])).length) Slot.unset).toArray = ls at hl ⊢
  have hl : lv_has ls 2 (List.map gq [(0, vR (some x0)), (1, vI x1)]) := hl
  exact t_X10_at_0 X hr _ _ _ _ hf rfl s.heap [] ls hW va_S.rf (lv_has_sub hl (lvsub_of _ _ [0, 1] rfl))
/-! ## TideLots$Tape.isLetter(I)Z -/
theorem dX10_isLetter_0 : decode cX10_isLetter 0 = .ok (.aload_n 0, 1) := by decide +kernel
theorem dX10_isLetter_1 : decode cX10_isLetter 1 = .ok (.iload_n 1, 1) := by decide +kernel
theorem dX10_isLetter_2 : decode cX10_isLetter 2 = .ok (.invokevirtual 50, 3) := by decide +kernel
theorem dX10_isLetter_5 : decode cX10_isLetter 5 = .ok (.bipush 97, 2) := by decide +kernel
theorem dX10_isLetter_7 : decode cX10_isLetter 7 = .ok (.if_icmp .lt 17, 3) := by decide +kernel
theorem dX10_isLetter_10 : decode cX10_isLetter 10 = .ok (.aload_n 0, 1) := by decide +kernel
theorem dX10_isLetter_11 : decode cX10_isLetter 11 = .ok (.iload_n 1, 1) := by decide +kernel
theorem dX10_isLetter_12 : decode cX10_isLetter 12 = .ok (.invokevirtual 50, 3) := by decide +kernel
theorem dX10_isLetter_15 : decode cX10_isLetter 15 = .ok (.bipush 122, 2) := by decide +kernel
theorem dX10_isLetter_17 : decode cX10_isLetter 17 = .ok (.if_icmp .gt 7, 3) := by decide +kernel
theorem dX10_isLetter_20 : decode cX10_isLetter 20 = .ok (.iconst 1, 1) := by decide +kernel
theorem dX10_isLetter_21 : decode cX10_isLetter 21 = .ok (.goto 4, 3) := by decide +kernel
theorem dX10_isLetter_24 : decode cX10_isLetter 24 = .ok (.iconst 0, 1) := by decide +kernel
theorem dX10_isLetter_25 : decode cX10_isLetter 25 = .ok (.ireturn, 1) := by decide +kernel
set_option maxRecDepth 20000 in
theorem ggX10_isLetter_X10_at : GoodIn wsX10_isLetter wsX10_at := goodIn_r _ [5, 6, 7, 8, 9, 10, 11, 12, 13] (by decide +kernel) (by decide +kernel)
set_option maxRecDepth 20000 in
theorem gX10_isLetter_X10_at : GoodIn wsX10_isLetter (wsV RX10 50 RX10 yX10_at wsX10_at) := goodIn_app (goodIn_of _ (by decide +kernel)) ggX10_isLetter_X10_at
abbrev rX10_isLetter : Room := { frames := 1, cells := 0, slots := 0, locals := 21 }
noncomputable def b_X10_isLetter_25 (M : gMem) (s0 : Int32) : Option (Int32 × gMem) :=
  ck (s0 = 0 ∨ s0 = 1) <| some (s0, M)
noncomputable def b_X10_isLetter_24 (M : gMem)  : Option (Int32 × gMem) :=
  b_X10_isLetter_25 M ((0 : Int32))
noncomputable def b_X10_isLetter_0 (M : gMem) (x0 : Nat) (x1 : Int32) : Option (Int32 × gMem) :=
  ck (mT M x0 = 9) <| bd (f_X10_at M x0 x1) fun r2 M2 => (if r2 < (97 : Int32) then b_X10_isLetter_24 M2  else ck (mT M2 x0 = 9) <| bd (f_X10_at M2 x0 x1) fun r4 M4 => (if (122 : Int32) < r4 then b_X10_isLetter_24 M4  else b_X10_isLetter_25 M4 ((1 : Int32))))
noncomputable def f_X10_isLetter (M : gMem) (x0 : Nat) (x1 : Int32) : Option (Int32 × gMem) :=
  b_X10_isLetter_0 M x0 x1
set_option maxHeartbeats 4000000 in
set_option maxRecDepth 100000 in
theorem t_X10_isLetter_25 (X : gX p s m args meth c D cy B (gSt Z B H0) RX10 cX10_isLetter wsX10_isLetter 2) (hr : meth.sig.returnType = (some .boolean)) {Q : State → Prop} : ∀ (M : gMem) (s0 : Int32) (z : Int32 × gMem), b_X10_isLetter_25 M s0 = some z → (fun (r : Int32 × gMem) => Q = gMQ below D cy B H0 args s 0 0 (some (vI r.1)) r.2) z → gGo p l e rX10_isLetter s m args below meth c D cy B H0 2 0 0 Q 25 [] [vI s0] M := by
  intro M s0 z hf hK
  unfold b_X10_isLetter_25 at hf
  obtain ⟨hg1, hf⟩ := ck_e hf
  cases hf
  refine g_eqQ hK ?_
  exact g_zret X hr (gnb hg1) dX10_isLetter_25
set_option maxHeartbeats 4000000 in
set_option maxRecDepth 100000 in
theorem t_X10_isLetter_24 (X : gX p s m args meth c D cy B (gSt Z B H0) RX10 cX10_isLetter wsX10_isLetter 2) (hr : meth.sig.returnType = (some .boolean)) {Q : State → Prop} : ∀ (M : gMem)  (z : Int32 × gMem), b_X10_isLetter_24 M  = some z → (fun (r : Int32 × gMem) => Q = gMQ below D cy B H0 args s 0 0 (some (vI r.1)) r.2) z → gGo p l e rX10_isLetter s m args below meth c D cy B H0 2 0 0 Q 24 [] [] M := by
  intro M  z hf hK
  unfold b_X10_isLetter_24 at hf
  refine g_iconst (v := (0 : Int32)) X dX10_isLetter_24 (by decide) ?_
  refine g_sub (lvsub_of _ _ [] rfl) ?_
  exact t_X10_isLetter_25 X hr _ _ _ hf hK
set_option maxHeartbeats 4000000 in
set_option maxRecDepth 100000 in
theorem t_X10_isLetter_0 (X : gX p s m args meth c D cy B (gSt Z B H0) RX10 cX10_isLetter wsX10_isLetter 2) (hr : meth.sig.returnType = (some .boolean)) {Q : State → Prop} : ∀ (M : gMem) (x0 : Nat) (x1 : Int32) (z : Int32 × gMem), b_X10_isLetter_0 M x0 x1 = some z → (fun (r : Int32 × gMem) => Q = gMQ below D cy B H0 args s 0 0 (some (vI r.1)) r.2) z → gGo p l e rX10_isLetter s m args below meth c D cy B H0 2 0 0 Q 0 [(0, vR (some x0)), (1, vI x1)] [] M := by
  intro M x0 x1 z hf hK
  unfold b_X10_isLetter_0 at hf
  refine g_aload_n X dX10_isLetter_0 rfl rfl ?_
  refine g_iload_n X dX10_isLetter_1 rfl rfl ?_
  obtain ⟨hT3, hf⟩ := ck_e hf
  obtain ⟨r2, M2, hq2, hf⟩ := bd_e hf
  refine g_callV (ci := 8) (b := x0) (As := [vI x1]) (st := []) (v := some (vI r2)) (M1 := M2) X (m_X10_at l hq2) (cwV 1 X.2.2.1 gX10_isLetter_X10_at rfl rfl rfl (by decide +kernel) ⟨Nat.le_of_ble_eq_true rfl, Nat.le_of_ble_eq_true rfl⟩) rfl rfl rfl hT3 (by decide) rfl (Nat.le_of_ble_eq_true rfl) dX10_isLetter_2 ⟨by decide, by decide⟩ ?_
  refine g_bipush (v := (97 : Int32)) X dX10_isLetter_5 (by decide) ?_
  refine g_icmp_lt (tgt := 24) X dX10_isLetter_7 (by decide) (fun hc => ?_) (fun hc => ?_)
  · have hf := ife_t hc hf
    refine g_sub (lvsub_of _ _ [] rfl) ?_
    exact t_X10_isLetter_24 X hr _  _ hf hK
  · have hf := ife_f hc hf
    refine g_aload_n X dX10_isLetter_10 rfl rfl ?_
    refine g_iload_n X dX10_isLetter_11 rfl rfl ?_
    obtain ⟨hT5, hf⟩ := ck_e hf
    obtain ⟨r4, M4, hq4, hf⟩ := bd_e hf
    refine g_callV (ci := 8) (b := x0) (As := [vI x1]) (st := []) (v := some (vI r4)) (M1 := M4) X (m_X10_at l hq4) (cwV 1 X.2.2.1 gX10_isLetter_X10_at rfl rfl rfl (by decide +kernel) ⟨Nat.le_of_ble_eq_true rfl, Nat.le_of_ble_eq_true rfl⟩) rfl rfl rfl hT5 (by decide) rfl (Nat.le_of_ble_eq_true rfl) dX10_isLetter_12 ⟨by decide, by decide⟩ ?_
    refine g_bipush (v := (122 : Int32)) X dX10_isLetter_15 (by decide) ?_
    refine g_icmp_gt (tgt := 24) X dX10_isLetter_17 (by decide) (fun hc => ?_) (fun hc => ?_)
    · have hf := ife_t hc hf
      refine g_sub (lvsub_of _ _ [] rfl) ?_
      exact t_X10_isLetter_24 X hr _  _ hf hK
    · have hf := ife_f hc hf
      refine g_iconst (v := (1 : Int32)) X dX10_isLetter_20 (by decide) ?_
      refine g_goto (tgt := 25) X dX10_isLetter_21 (by decide) ?_
      refine g_sub (lvsub_of _ _ [] rfl) ?_
      exact t_X10_isLetter_25 X hr _ _ _ hf hK
set_option maxHeartbeats 4000000 in
set_option maxRecDepth 100000 in
theorem m_X10_isLetter (l : Launch) {D : va_G} {cy : Nat → ClassId} {B : Nat} {H0 : Heap} {Z : Nat → Nat} {M M1 : gMem} {x0 : Nat} {x1 : Int32} {r : Int32} (hf : f_X10_isLetter M x0 x1 = some (r, M1)) : Met l yX10_isLetter wsX10_isLetter rX10_isLetter (va_Pc (Value.ref x0 :: List.map gv [vI x1]) (gPre D cy B H0 (gSt Z B H0) M)) (gQ D cy B H0 (some (vI r)) M1) 0 0 (gA B) := by
  refine Met.ofW (cc := cX10_isLetter) (maxL := 2) (ret := (some .boolean)) (by decide) rfl ?_
  intro p e s m args below meth c s₁ Bd hml hv
  obtain ⟨rfl, hW, hKK, hFs⟩ := hv
  have X : gX p s m _ meth c D cy B (gSt Z B H0) RX10 cX10_isLetter wsX10_isLetter 2 := ⟨Bd.exec, Bd.bytes, atoms_spec (ws := wsX10_isLetter) Bd.pre, findClass_of_methodNamed Bd.named, hml, hKK, by rw [hW.1]; exact hW.2.1, Bd.notSynchronized, hFs⟩
  have hr := Bd.returns
  have hl := lv_entry ([.ref x0, .int x1]) (n := 2) (Nat.le_of_ble_eq_true rfl)
  show W p l e rX10_isLetter s m _ below meth c s.heap [] 0 0 _ (entryFrame m ([.ref x0, .int x1] : List Value).toArray 2)
  rw [lg_entry_eq]
  generalize (lg_sl ([.ref x0, .int x1]) ++ List.replicate (2 - (lg_sl ([.ref x0, .int x1])).length) Slot.unset).toArray = ls at hl ⊢
  have hl : lv_has ls 2 (List.map gq [(0, vR (some x0)), (1, vI x1)]) := hl
  exact t_X10_isLetter_0 X hr _ _ _ _ hf rfl s.heap [] ls hW va_S.rf (lv_has_sub hl (lvsub_of _ _ [0, 1] rfl))
/-! ## TideLots$Tape.isDigit(I)Z -/
theorem dX10_isDigit_0 : decode cX10_isDigit 0 = .ok (.aload_n 0, 1) := by decide +kernel
theorem dX10_isDigit_1 : decode cX10_isDigit 1 = .ok (.iload_n 1, 1) := by decide +kernel
theorem dX10_isDigit_2 : decode cX10_isDigit 2 = .ok (.invokevirtual 50, 3) := by decide +kernel
theorem dX10_isDigit_5 : decode cX10_isDigit 5 = .ok (.bipush 48, 2) := by decide +kernel
theorem dX10_isDigit_7 : decode cX10_isDigit 7 = .ok (.if_icmp .lt 17, 3) := by decide +kernel
theorem dX10_isDigit_10 : decode cX10_isDigit 10 = .ok (.aload_n 0, 1) := by decide +kernel
theorem dX10_isDigit_11 : decode cX10_isDigit 11 = .ok (.iload_n 1, 1) := by decide +kernel
theorem dX10_isDigit_12 : decode cX10_isDigit 12 = .ok (.invokevirtual 50, 3) := by decide +kernel
theorem dX10_isDigit_15 : decode cX10_isDigit 15 = .ok (.bipush 57, 2) := by decide +kernel
theorem dX10_isDigit_17 : decode cX10_isDigit 17 = .ok (.if_icmp .gt 7, 3) := by decide +kernel
theorem dX10_isDigit_20 : decode cX10_isDigit 20 = .ok (.iconst 1, 1) := by decide +kernel
theorem dX10_isDigit_21 : decode cX10_isDigit 21 = .ok (.goto 4, 3) := by decide +kernel
theorem dX10_isDigit_24 : decode cX10_isDigit 24 = .ok (.iconst 0, 1) := by decide +kernel
theorem dX10_isDigit_25 : decode cX10_isDigit 25 = .ok (.ireturn, 1) := by decide +kernel
set_option maxRecDepth 20000 in
theorem ggX10_isDigit_X10_at : GoodIn wsX10_isDigit wsX10_at := goodIn_r _ [5, 6, 7, 8, 9, 10, 11, 12, 13] (by decide +kernel) (by decide +kernel)
set_option maxRecDepth 20000 in
theorem gX10_isDigit_X10_at : GoodIn wsX10_isDigit (wsV RX10 50 RX10 yX10_at wsX10_at) := goodIn_app (goodIn_of _ (by decide +kernel)) ggX10_isDigit_X10_at
abbrev rX10_isDigit : Room := { frames := 1, cells := 0, slots := 0, locals := 21 }
noncomputable def b_X10_isDigit_25 (M : gMem) (s0 : Int32) : Option (Int32 × gMem) :=
  ck (s0 = 0 ∨ s0 = 1) <| some (s0, M)
noncomputable def b_X10_isDigit_24 (M : gMem)  : Option (Int32 × gMem) :=
  b_X10_isDigit_25 M ((0 : Int32))
noncomputable def b_X10_isDigit_0 (M : gMem) (x0 : Nat) (x1 : Int32) : Option (Int32 × gMem) :=
  ck (mT M x0 = 9) <| bd (f_X10_at M x0 x1) fun r2 M2 => (if r2 < (48 : Int32) then b_X10_isDigit_24 M2  else ck (mT M2 x0 = 9) <| bd (f_X10_at M2 x0 x1) fun r4 M4 => (if (57 : Int32) < r4 then b_X10_isDigit_24 M4  else b_X10_isDigit_25 M4 ((1 : Int32))))
noncomputable def f_X10_isDigit (M : gMem) (x0 : Nat) (x1 : Int32) : Option (Int32 × gMem) :=
  b_X10_isDigit_0 M x0 x1
set_option maxHeartbeats 4000000 in
set_option maxRecDepth 100000 in
theorem t_X10_isDigit_25 (X : gX p s m args meth c D cy B (gSt Z B H0) RX10 cX10_isDigit wsX10_isDigit 2) (hr : meth.sig.returnType = (some .boolean)) {Q : State → Prop} : ∀ (M : gMem) (s0 : Int32) (z : Int32 × gMem), b_X10_isDigit_25 M s0 = some z → (fun (r : Int32 × gMem) => Q = gMQ below D cy B H0 args s 0 0 (some (vI r.1)) r.2) z → gGo p l e rX10_isDigit s m args below meth c D cy B H0 2 0 0 Q 25 [] [vI s0] M := by
  intro M s0 z hf hK
  unfold b_X10_isDigit_25 at hf
  obtain ⟨hg1, hf⟩ := ck_e hf
  cases hf
  refine g_eqQ hK ?_
  exact g_zret X hr (gnb hg1) dX10_isDigit_25
set_option maxHeartbeats 4000000 in
set_option maxRecDepth 100000 in
theorem t_X10_isDigit_24 (X : gX p s m args meth c D cy B (gSt Z B H0) RX10 cX10_isDigit wsX10_isDigit 2) (hr : meth.sig.returnType = (some .boolean)) {Q : State → Prop} : ∀ (M : gMem)  (z : Int32 × gMem), b_X10_isDigit_24 M  = some z → (fun (r : Int32 × gMem) => Q = gMQ below D cy B H0 args s 0 0 (some (vI r.1)) r.2) z → gGo p l e rX10_isDigit s m args below meth c D cy B H0 2 0 0 Q 24 [] [] M := by
  intro M  z hf hK
  unfold b_X10_isDigit_24 at hf
  refine g_iconst (v := (0 : Int32)) X dX10_isDigit_24 (by decide) ?_
  refine g_sub (lvsub_of _ _ [] rfl) ?_
  exact t_X10_isDigit_25 X hr _ _ _ hf hK
set_option maxHeartbeats 4000000 in
set_option maxRecDepth 100000 in
theorem t_X10_isDigit_0 (X : gX p s m args meth c D cy B (gSt Z B H0) RX10 cX10_isDigit wsX10_isDigit 2) (hr : meth.sig.returnType = (some .boolean)) {Q : State → Prop} : ∀ (M : gMem) (x0 : Nat) (x1 : Int32) (z : Int32 × gMem), b_X10_isDigit_0 M x0 x1 = some z → (fun (r : Int32 × gMem) => Q = gMQ below D cy B H0 args s 0 0 (some (vI r.1)) r.2) z → gGo p l e rX10_isDigit s m args below meth c D cy B H0 2 0 0 Q 0 [(0, vR (some x0)), (1, vI x1)] [] M := by
  intro M x0 x1 z hf hK
  unfold b_X10_isDigit_0 at hf
  refine g_aload_n X dX10_isDigit_0 rfl rfl ?_
  refine g_iload_n X dX10_isDigit_1 rfl rfl ?_
  obtain ⟨hT3, hf⟩ := ck_e hf
  obtain ⟨r2, M2, hq2, hf⟩ := bd_e hf
  refine g_callV (ci := 8) (b := x0) (As := [vI x1]) (st := []) (v := some (vI r2)) (M1 := M2) X (m_X10_at l hq2) (cwV 1 X.2.2.1 gX10_isDigit_X10_at rfl rfl rfl (by decide +kernel) ⟨Nat.le_of_ble_eq_true rfl, Nat.le_of_ble_eq_true rfl⟩) rfl rfl rfl hT3 (by decide) rfl (Nat.le_of_ble_eq_true rfl) dX10_isDigit_2 ⟨by decide, by decide⟩ ?_
  refine g_bipush (v := (48 : Int32)) X dX10_isDigit_5 (by decide) ?_
  refine g_icmp_lt (tgt := 24) X dX10_isDigit_7 (by decide) (fun hc => ?_) (fun hc => ?_)
  · have hf := ife_t hc hf
    refine g_sub (lvsub_of _ _ [] rfl) ?_
    exact t_X10_isDigit_24 X hr _  _ hf hK
  · have hf := ife_f hc hf
    refine g_aload_n X dX10_isDigit_10 rfl rfl ?_
    refine g_iload_n X dX10_isDigit_11 rfl rfl ?_
    obtain ⟨hT5, hf⟩ := ck_e hf
    obtain ⟨r4, M4, hq4, hf⟩ := bd_e hf
    refine g_callV (ci := 8) (b := x0) (As := [vI x1]) (st := []) (v := some (vI r4)) (M1 := M4) X (m_X10_at l hq4) (cwV 1 X.2.2.1 gX10_isDigit_X10_at rfl rfl rfl (by decide +kernel) ⟨Nat.le_of_ble_eq_true rfl, Nat.le_of_ble_eq_true rfl⟩) rfl rfl rfl hT5 (by decide) rfl (Nat.le_of_ble_eq_true rfl) dX10_isDigit_12 ⟨by decide, by decide⟩ ?_
    refine g_bipush (v := (57 : Int32)) X dX10_isDigit_15 (by decide) ?_
    refine g_icmp_gt (tgt := 24) X dX10_isDigit_17 (by decide) (fun hc => ?_) (fun hc => ?_)
    · have hf := ife_t hc hf
      refine g_sub (lvsub_of _ _ [] rfl) ?_
      exact t_X10_isDigit_24 X hr _  _ hf hK
    · have hf := ife_f hc hf
      refine g_iconst (v := (1 : Int32)) X dX10_isDigit_20 (by decide) ?_
      refine g_goto (tgt := 25) X dX10_isDigit_21 (by decide) ?_
      refine g_sub (lvsub_of _ _ [] rfl) ?_
      exact t_X10_isDigit_25 X hr _ _ _ hf hK
set_option maxHeartbeats 4000000 in
set_option maxRecDepth 100000 in
theorem m_X10_isDigit (l : Launch) {D : va_G} {cy : Nat → ClassId} {B : Nat} {H0 : Heap} {Z : Nat → Nat} {M M1 : gMem} {x0 : Nat} {x1 : Int32} {r : Int32} (hf : f_X10_isDigit M x0 x1 = some (r, M1)) : Met l yX10_isDigit wsX10_isDigit rX10_isDigit (va_Pc (Value.ref x0 :: List.map gv [vI x1]) (gPre D cy B H0 (gSt Z B H0) M)) (gQ D cy B H0 (some (vI r)) M1) 0 0 (gA B) := by
  refine Met.ofW (cc := cX10_isDigit) (maxL := 2) (ret := (some .boolean)) (by decide) rfl ?_
  intro p e s m args below meth c s₁ Bd hml hv
  obtain ⟨rfl, hW, hKK, hFs⟩ := hv
  have X : gX p s m _ meth c D cy B (gSt Z B H0) RX10 cX10_isDigit wsX10_isDigit 2 := ⟨Bd.exec, Bd.bytes, atoms_spec (ws := wsX10_isDigit) Bd.pre, findClass_of_methodNamed Bd.named, hml, hKK, by rw [hW.1]; exact hW.2.1, Bd.notSynchronized, hFs⟩
  have hr := Bd.returns
  have hl := lv_entry ([.ref x0, .int x1]) (n := 2) (Nat.le_of_ble_eq_true rfl)
  show W p l e rX10_isDigit s m _ below meth c s.heap [] 0 0 _ (entryFrame m ([.ref x0, .int x1] : List Value).toArray 2)
  rw [lg_entry_eq]
  generalize (lg_sl ([.ref x0, .int x1]) ++ List.replicate (2 - (lg_sl ([.ref x0, .int x1])).length) Slot.unset).toArray = ls at hl ⊢
  have hl : lv_has ls 2 (List.map gq [(0, vR (some x0)), (1, vI x1)]) := hl
  exact t_X10_isDigit_0 X hr _ _ _ _ hf rfl s.heap [] ls hW va_S.rf (lv_has_sub hl (lvsub_of _ _ [0, 1] rfl))
/-! ## TideLots$Tape.skipBlanks()V -/
theorem dX10_skipBlanks_0 : decode cX10_skipBlanks 0 = .ok (.aload_n 0, 1) := by decide +kernel
theorem dX10_skipBlanks_1 : decode cX10_skipBlanks 1 = .ok (.getfield 37, 3) := by decide +kernel
theorem dX10_skipBlanks_4 : decode cX10_skipBlanks 4 = .ok (.aload_n 0, 1) := by decide +kernel
theorem dX10_skipBlanks_5 : decode cX10_skipBlanks 5 = .ok (.getfield 33, 3) := by decide +kernel
theorem dX10_skipBlanks_8 : decode cX10_skipBlanks 8 = .ok (.if_icmp .ge 42, 3) := by decide +kernel
theorem dX10_skipBlanks_11 : decode cX10_skipBlanks 11 = .ok (.aload_n 0, 1) := by decide +kernel
theorem dX10_skipBlanks_12 : decode cX10_skipBlanks 12 = .ok (.aload_n 0, 1) := by decide +kernel
theorem dX10_skipBlanks_13 : decode cX10_skipBlanks 13 = .ok (.getfield 37, 3) := by decide +kernel
theorem dX10_skipBlanks_16 : decode cX10_skipBlanks 16 = .ok (.invokevirtual 50, 3) := by decide +kernel
theorem dX10_skipBlanks_19 : decode cX10_skipBlanks 19 = .ok (.bipush 32, 2) := by decide +kernel
theorem dX10_skipBlanks_21 : decode cX10_skipBlanks 21 = .ok (.if_icmp .eq 16, 3) := by decide +kernel
theorem dX10_skipBlanks_24 : decode cX10_skipBlanks 24 = .ok (.aload_n 0, 1) := by decide +kernel
theorem dX10_skipBlanks_25 : decode cX10_skipBlanks 25 = .ok (.aload_n 0, 1) := by decide +kernel
theorem dX10_skipBlanks_26 : decode cX10_skipBlanks 26 = .ok (.getfield 37, 3) := by decide +kernel
theorem dX10_skipBlanks_29 : decode cX10_skipBlanks 29 = .ok (.invokevirtual 50, 3) := by decide +kernel
theorem dX10_skipBlanks_32 : decode cX10_skipBlanks 32 = .ok (.bipush 10, 2) := by decide +kernel
theorem dX10_skipBlanks_34 : decode cX10_skipBlanks 34 = .ok (.if_icmp .ne 16, 3) := by decide +kernel
theorem dX10_skipBlanks_37 : decode cX10_skipBlanks 37 = .ok (.aload_n 0, 1) := by decide +kernel
theorem dX10_skipBlanks_38 : decode cX10_skipBlanks 38 = .ok (.dup, 1) := by decide +kernel
theorem dX10_skipBlanks_39 : decode cX10_skipBlanks 39 = .ok (.getfield 37, 3) := by decide +kernel
theorem dX10_skipBlanks_42 : decode cX10_skipBlanks 42 = .ok (.iconst 1, 1) := by decide +kernel
theorem dX10_skipBlanks_43 : decode cX10_skipBlanks 43 = .ok (.iadd, 1) := by decide +kernel
theorem dX10_skipBlanks_44 : decode cX10_skipBlanks 44 = .ok (.putfield 37, 3) := by decide +kernel
theorem dX10_skipBlanks_47 : decode cX10_skipBlanks 47 = .ok (.goto (-47), 3) := by decide +kernel
theorem dX10_skipBlanks_50 : decode cX10_skipBlanks 50 = .ok (.return_, 1) := by decide +kernel
set_option maxRecDepth 20000 in
theorem ggX10_skipBlanks_X10_at : GoodIn wsX10_skipBlanks wsX10_at := goodIn_r _ [7, 2, 8, 9, 10, 11, 12, 13, 14] (by decide +kernel) (by decide +kernel)
set_option maxRecDepth 20000 in
theorem gX10_skipBlanks_X10_at : GoodIn wsX10_skipBlanks (wsV RX10 50 RX10 yX10_at wsX10_at) := goodIn_app (goodIn_of _ (by decide +kernel)) ggX10_skipBlanks_X10_at
theorem k_X10_skipBlanks_f37 : Cond.fieldLink RX10 37 "TideLots$Tape" "end" "I" ∈ wsX10_skipBlanks := by decide +kernel
theorem i_X10_skipBlanks_X10 : ∀ w ∈ u_ws RX10 TX10 6, w ∈ wsX10_skipBlanks := by decide +kernel
theorem k_X10_skipBlanks_f33 : Cond.fieldLink RX10 33 "TideLots$Tape" "length" "I" ∈ wsX10_skipBlanks := by decide +kernel
abbrev rX10_skipBlanks : Room := { frames := 1, cells := 0, slots := 0, locals := 21 }
noncomputable def b_X10_skipBlanks_50 (M : gMem)  : Option (Unit × gMem) :=
  some ((), M)
noncomputable def b_X10_skipBlanks_37 (M : gMem) (x0 : Nat) : Option ((gMem) ⊕ (Unit × gMem)) :=
  ck (mT M x0 = 9) <| lw (wI M x0 5 (((mI M x0 5) + (1 : Int32)))) fun M2 => some (.inl M2)
noncomputable def bb_X10_skipBlanks_0 (M : gMem) (x0 : Nat) : Option ((gMem) ⊕ (Unit × gMem)) :=
  ck (mT M x0 = 9) <| (if (mI M x0 0) ≤ (mI M x0 5) then oI (b_X10_skipBlanks_50 M ) else bd (f_X10_at M x0 ((mI M x0 5))) fun r6 M6 => (if r6 = (32 : Int32) then b_X10_skipBlanks_37 M6 x0 else ck (mT M6 x0 = 9) <| bd (f_X10_at M6 x0 ((mI M6 x0 5))) fun r8 M8 => (if r8 = (10 : Int32) then b_X10_skipBlanks_37 M8 x0 else oI (b_X10_skipBlanks_50 M8 ))))
noncomputable def lp_X10_skipBlanks_0 (M : gMem) (x0 : Nat) : Option (Unit × gMem) :=
  lp (fun (q : gMem) => bb_X10_skipBlanks_0 q x0) M
noncomputable def f_X10_skipBlanks (M : gMem) (x0 : Nat) : Option (Unit × gMem) :=
  lp_X10_skipBlanks_0 M x0
set_option maxHeartbeats 4000000 in
set_option maxRecDepth 100000 in
theorem t_X10_skipBlanks_50 (X : gX p s m args meth c D cy B (gSt Z B H0) RX10 cX10_skipBlanks wsX10_skipBlanks 1) (hr : meth.sig.returnType = none) {Q : State → Prop} : ∀ (M : gMem)  (z : Unit × gMem), b_X10_skipBlanks_50 M  = some z → (fun (r : Unit × gMem) => Q = gMQ below D cy B H0 args s 0 0 none r.2) z → gGo p l e rX10_skipBlanks s m args below meth c D cy B H0 1 0 0 Q 50 [] [] M := by
  intro M  z hf hK
  unfold b_X10_skipBlanks_50 at hf
  cases hf
  refine g_eqQ hK ?_
  exact g_vret X hr dX10_skipBlanks_50
set_option maxHeartbeats 4000000 in
set_option maxRecDepth 100000 in
theorem t_X10_skipBlanks_37 (X : gX p s m args meth c D cy B (gSt Z B H0) RX10 cX10_skipBlanks wsX10_skipBlanks 1) (hr : meth.sig.returnType = none) {Q : State → Prop} : ∀ (M : gMem) (x0 : Nat) (z : (gMem) ⊕ (Unit × gMem)), b_X10_skipBlanks_37 M x0 = some z → (Sum.elim (fun (q : gMem) => gGo p l e rX10_skipBlanks s m args below meth c D cy B H0 1 0 0 Q 0 [(0, vR (some x0))] [] q) (fun (r : Unit × gMem) => Q = gMQ below D cy B H0 args s 0 0 none r.2)) z → gGo p l e rX10_skipBlanks s m args below meth c D cy B H0 1 0 0 Q 37 [(0, vR (some x0))] [] M := by
  intro M x0 z hf hK
  unfold b_X10_skipBlanks_37 at hf
  refine g_aload_n X dX10_skipBlanks_37 rfl rfl ?_
  refine g_dup X dX10_skipBlanks_38 rfl ?_
  obtain ⟨hT1, hf⟩ := ck_e hf
  refine g_get (ci := 8) (v := vI (mI M x0 5)) 5 X cdX10 i_X10_skipBlanks_X10 (by decide) k_X10_skipBlanks_f37 rfl dX10_skipBlanks_39 rfl hT1 rfl ?_
  refine g_iconst (v := (1 : Int32)) X dX10_skipBlanks_42 (by decide) ?_
  refine g_iadd X dX10_skipBlanks_43 ?_
  refine g_putI (ci := 8) 5 X cdX10 i_X10_skipBlanks_X10 (by decide) k_X10_skipBlanks_f37 rfl dX10_skipBlanks_44 rfl hT1 (Or.inl rfl) rfl rfl rfl ?_
  obtain ⟨M2, hM2, hf⟩ := lw_e hf
  rw [← hM2]
  have hT3 : mT M2 x0 = 9 := by rw [hM2]; exact hT1
  refine g_goto (tgt := 0) X dX10_skipBlanks_47 (by decide) ?_
  cases hf
  refine g_sub (lvsub_of _ _ [0] rfl) ?_
  exact hK
set_option maxHeartbeats 4000000 in
set_option maxRecDepth 100000 in
theorem tb_X10_skipBlanks_0 (X : gX p s m args meth c D cy B (gSt Z B H0) RX10 cX10_skipBlanks wsX10_skipBlanks 1) (hr : meth.sig.returnType = none) {Q : State → Prop} : ∀ (M : gMem) (x0 : Nat) (z : (gMem) ⊕ (Unit × gMem)), bb_X10_skipBlanks_0 M x0 = some z → (Sum.elim (fun (q : gMem) => gGo p l e rX10_skipBlanks s m args below meth c D cy B H0 1 0 0 Q 0 [(0, vR (some x0))] [] q) (fun (r : Unit × gMem) => Q = gMQ below D cy B H0 args s 0 0 none r.2)) z → gGo p l e rX10_skipBlanks s m args below meth c D cy B H0 1 0 0 Q 0 [(0, vR (some x0))] [] M := by
  intro M x0 z hf hK
  unfold bb_X10_skipBlanks_0 at hf
  refine g_aload_n X dX10_skipBlanks_0 rfl rfl ?_
  obtain ⟨hT4, hf⟩ := ck_e hf
  refine g_get (ci := 8) (v := vI (mI M x0 5)) 5 X cdX10 i_X10_skipBlanks_X10 (by decide) k_X10_skipBlanks_f37 rfl dX10_skipBlanks_1 rfl hT4 rfl ?_
  refine g_aload_n X dX10_skipBlanks_4 rfl rfl ?_
  refine g_get (ci := 8) (v := vI (mI M x0 0)) 0 X cdX10 i_X10_skipBlanks_X10 (by decide) k_X10_skipBlanks_f33 rfl dX10_skipBlanks_5 rfl hT4 rfl ?_
  refine g_icmp_ge (tgt := 50) X dX10_skipBlanks_8 (by decide) (fun hc => ?_) (fun hc => ?_)
  · have hf := ife_t hc hf
    obtain ⟨w5, hw5, hz5⟩ := oI_e hf
    subst hz5
    have hf := hw5
    refine g_sub (lvsub_of _ _ [] rfl) ?_
    exact t_X10_skipBlanks_50 X hr _  _ hf hK
  · have hf := ife_f hc hf
    refine g_aload_n X dX10_skipBlanks_11 rfl rfl ?_
    refine g_aload_n X dX10_skipBlanks_12 rfl rfl ?_
    refine g_get (ci := 8) (v := vI (mI M x0 5)) 5 X cdX10 i_X10_skipBlanks_X10 (by decide) k_X10_skipBlanks_f37 rfl dX10_skipBlanks_13 rfl hT4 rfl ?_
    obtain ⟨r6, M6, hq6, hf⟩ := bd_e hf
    refine g_callV (ci := 8) (b := x0) (As := [vI (mI M x0 5)]) (st := []) (v := some (vI r6)) (M1 := M6) X (m_X10_at l hq6) (cwV 1 X.2.2.1 gX10_skipBlanks_X10_at rfl rfl rfl (by decide +kernel) ⟨Nat.le_of_ble_eq_true rfl, Nat.le_of_ble_eq_true rfl⟩) rfl rfl rfl hT4 (by decide) rfl (Nat.le_of_ble_eq_true rfl) dX10_skipBlanks_16 ⟨by decide, by decide⟩ ?_
    refine g_bipush (v := (32 : Int32)) X dX10_skipBlanks_19 (by decide) ?_
    refine g_icmp_eq (tgt := 37) X dX10_skipBlanks_21 (by decide) (fun hc => ?_) (fun hc => ?_)
    · have hf := ife_t hc hf
      refine g_sub (lvsub_of _ _ [0] rfl) ?_
      exact t_X10_skipBlanks_37 X hr _ _ _ hf hK
    · have hf := ife_f hc hf
      refine g_aload_n X dX10_skipBlanks_24 rfl rfl ?_
      refine g_aload_n X dX10_skipBlanks_25 rfl rfl ?_
      obtain ⟨hT7, hf⟩ := ck_e hf
      refine g_get (ci := 8) (v := vI (mI M6 x0 5)) 5 X cdX10 i_X10_skipBlanks_X10 (by decide) k_X10_skipBlanks_f37 rfl dX10_skipBlanks_26 rfl hT7 rfl ?_
      obtain ⟨r8, M8, hq8, hf⟩ := bd_e hf
      refine g_callV (ci := 8) (b := x0) (As := [vI (mI M6 x0 5)]) (st := []) (v := some (vI r8)) (M1 := M8) X (m_X10_at l hq8) (cwV 1 X.2.2.1 gX10_skipBlanks_X10_at rfl rfl rfl (by decide +kernel) ⟨Nat.le_of_ble_eq_true rfl, Nat.le_of_ble_eq_true rfl⟩) rfl rfl rfl hT7 (by decide) rfl (Nat.le_of_ble_eq_true rfl) dX10_skipBlanks_29 ⟨by decide, by decide⟩ ?_
      refine g_bipush (v := (10 : Int32)) X dX10_skipBlanks_32 (by decide) ?_
      refine g_icmp_ne (tgt := 50) X dX10_skipBlanks_34 (by decide) (fun hc => ?_) (fun hc => ?_)
      · have hf := ife_f hc hf
        obtain ⟨w9, hw9, hz9⟩ := oI_e hf
        subst hz9
        have hf := hw9
        refine g_sub (lvsub_of _ _ [] rfl) ?_
        exact t_X10_skipBlanks_50 X hr _  _ hf hK
      · have hf := ife_t hc hf
        refine g_sub (lvsub_of _ _ [0] rfl) ?_
        exact t_X10_skipBlanks_37 X hr _ _ _ hf hK
set_option maxHeartbeats 4000000 in
set_option maxRecDepth 100000 in
theorem tl_X10_skipBlanks_0 (X : gX p s m args meth c D cy B (gSt Z B H0) RX10 cX10_skipBlanks wsX10_skipBlanks 1) (hr : meth.sig.returnType = none) {Q : State → Prop} : ∀ (M : gMem) (x0 : Nat) (z : Unit × gMem), lp_X10_skipBlanks_0 M x0 = some z → (fun (r : Unit × gMem) => Q = gMQ below D cy B H0 args s 0 0 none r.2) z → gGo p l e rX10_skipBlanks s m args below meth c D cy B H0 1 0 0 Q 0 [(0, vR (some x0))] [] M := by
  intro M x0 z hf hK
  refine lp_ind (P := (fun (q : gMem) (z : Unit × gMem) => (fun (r : Unit × gMem) => Q = gMQ below D cy B H0 args s 0 0 none r.2) z → gGo p l e rX10_skipBlanks s m args below meth c D cy B H0 1 0 0 Q 0 [(0, vR (some x0))] [] q)) (fun q z hq => ?_) _ _ hf hK
  intro hK
  obtain ⟨w, hw, hm⟩ := hq
  refine tb_X10_skipBlanks_0 X hr _ _ w hw ?_
  cases w with
  | inl a => exact hm hK
  | inr b => cases hm; exact hK
set_option maxHeartbeats 4000000 in
set_option maxRecDepth 100000 in
theorem m_X10_skipBlanks (l : Launch) {D : va_G} {cy : Nat → ClassId} {B : Nat} {H0 : Heap} {Z : Nat → Nat} {M M1 : gMem} {x0 : Nat} {r : Unit} (hf : f_X10_skipBlanks M x0 = some (r, M1)) : Met l yX10_skipBlanks wsX10_skipBlanks rX10_skipBlanks (va_Pc (Value.ref x0 :: List.map gv []) (gPre D cy B H0 (gSt Z B H0) M)) (gQ D cy B H0 none M1) 0 0 (gA B) := by
  refine Met.ofW (cc := cX10_skipBlanks) (maxL := 1) (ret := none) (by decide) rfl ?_
  intro p e s m args below meth c s₁ Bd hml hv
  obtain ⟨rfl, hW, hKK, hFs⟩ := hv
  have X : gX p s m _ meth c D cy B (gSt Z B H0) RX10 cX10_skipBlanks wsX10_skipBlanks 1 := ⟨Bd.exec, Bd.bytes, atoms_spec (ws := wsX10_skipBlanks) Bd.pre, findClass_of_methodNamed Bd.named, hml, hKK, by rw [hW.1]; exact hW.2.1, Bd.notSynchronized, hFs⟩
  have hr := Bd.returns
  have hl := lv_entry ([.ref x0]) (n := 1) (Nat.le_of_ble_eq_true rfl)
  show W p l e rX10_skipBlanks s m _ below meth c s.heap [] 0 0 _ (entryFrame m ([.ref x0] : List Value).toArray 1)
  rw [lg_entry_eq]
  generalize (lg_sl ([.ref x0]) ++ List.replicate (1 - (lg_sl ([.ref x0])).length) Slot.unset).toArray = ls at hl ⊢
  have hl : lv_has ls 1 (List.map gq [(0, vR (some x0))]) := hl
  exact tl_X10_skipBlanks_0 X hr _ _ _ hf rfl s.heap [] ls hW va_S.rf (lv_has_sub hl (lvsub_of _ _ [0] rfl))
/-! ## TideLots$Tape.reads(Ljava/lang/String;II)Z -/
theorem dX10_reads_0 : decode cX10_reads 0 = .ok (.aload_n 1, 1) := by decide +kernel
theorem dX10_reads_1 : decode cX10_reads 1 = .ok (.invokevirtual 96, 3) := by decide +kernel
theorem dX10_reads_4 : decode cX10_reads 4 = .ok (.iload_n 3, 1) := by decide +kernel
theorem dX10_reads_5 : decode cX10_reads 5 = .ok (.if_icmp .eq 5, 3) := by decide +kernel
theorem dX10_reads_8 : decode cX10_reads 8 = .ok (.iconst 0, 1) := by decide +kernel
theorem dX10_reads_9 : decode cX10_reads 9 = .ok (.ireturn, 1) := by decide +kernel
theorem dX10_reads_10 : decode cX10_reads 10 = .ok (.iconst 0, 1) := by decide +kernel
theorem dX10_reads_11 : decode cX10_reads 11 = .ok (.istore 4, 2) := by decide +kernel
theorem dX10_reads_13 : decode cX10_reads 13 = .ok (.iload 4, 2) := by decide +kernel
theorem dX10_reads_15 : decode cX10_reads 15 = .ok (.iload_n 3, 1) := by decide +kernel
theorem dX10_reads_16 : decode cX10_reads 16 = .ok (.if_icmp .ge 28, 3) := by decide +kernel
theorem dX10_reads_19 : decode cX10_reads 19 = .ok (.aload_n 0, 1) := by decide +kernel
theorem dX10_reads_20 : decode cX10_reads 20 = .ok (.iload_n 2, 1) := by decide +kernel
theorem dX10_reads_21 : decode cX10_reads 21 = .ok (.iload 4, 2) := by decide +kernel
theorem dX10_reads_23 : decode cX10_reads 23 = .ok (.iadd, 1) := by decide +kernel
theorem dX10_reads_24 : decode cX10_reads 24 = .ok (.invokevirtual 50, 3) := by decide +kernel
theorem dX10_reads_27 : decode cX10_reads 27 = .ok (.aload_n 1, 1) := by decide +kernel
theorem dX10_reads_28 : decode cX10_reads 28 = .ok (.iload 4, 2) := by decide +kernel
theorem dX10_reads_30 : decode cX10_reads 30 = .ok (.invokevirtual 101, 3) := by decide +kernel
theorem dX10_reads_33 : decode cX10_reads 33 = .ok (.if_icmp .eq 5, 3) := by decide +kernel
theorem dX10_reads_36 : decode cX10_reads 36 = .ok (.iconst 0, 1) := by decide +kernel
theorem dX10_reads_37 : decode cX10_reads 37 = .ok (.ireturn, 1) := by decide +kernel
theorem dX10_reads_38 : decode cX10_reads 38 = .ok (.iinc 4 1, 3) := by decide +kernel
theorem dX10_reads_41 : decode cX10_reads 41 = .ok (.goto (-28), 3) := by decide +kernel
theorem dX10_reads_44 : decode cX10_reads 44 = .ok (.iconst 1, 1) := by decide +kernel
theorem dX10_reads_45 : decode cX10_reads 45 = .ok (.ireturn, 1) := by decide +kernel
set_option maxRecDepth 20000 in
theorem ggX10_reads_X10_at : GoodIn wsX10_reads wsX10_at := goodIn_r _ [17, 18, 19, 61, 62, 63, 64, 65, 66] (by decide +kernel) (by decide +kernel)
set_option maxRecDepth 20000 in
theorem gX10_reads_X10_at : GoodIn wsX10_reads (wsV RX10 50 RX10 yX10_at wsX10_at) := goodIn_app (goodIn_of _ (by decide +kernel)) ggX10_reads_X10_at
set_option maxRecDepth 20000 in
theorem ggX10_reads_J0_charAt_5068e : GoodIn wsX10_reads wsJ0_charAt_5068e := goodIn_2 24 (goodIn_r _ [23, 6, 24, 25, 26, 4, 27, 11, 12, 28, 29, 30, 31, 32, 33, 34, 35, 36, 37, 38, 39, 40, 41, 42] (by decide +kernel) (by decide +kernel)) (goodIn_r _ [43, 44, 45, 46, 47, 48, 49, 50, 51, 52, 53, 54, 55, 56, 57, 58, 59, 60] (by decide +kernel) (by decide +kernel))
set_option maxRecDepth 20000 in
theorem gX10_reads_J0_charAt_5068e : GoodIn wsX10_reads (wsV RX10 101 RJ0 yJ0_charAt_5068e wsJ0_charAt_5068e) := goodIn_app (goodIn_of _ (by decide +kernel)) ggX10_reads_J0_charAt_5068e
set_option maxRecDepth 20000 in
theorem ggX10_reads_J0_length_8abf5 : GoodIn wsX10_reads wsJ0_length_8abf5 := goodIn_r _ [5, 6, 7, 8, 9, 4, 10, 11, 12, 57, 58, 59, 60] (by decide +kernel) (by decide +kernel)
set_option maxRecDepth 20000 in
theorem gX10_reads_J0_length_8abf5 : GoodIn wsX10_reads (wsV RX10 96 RJ0 yJ0_length_8abf5 wsJ0_length_8abf5) := goodIn_app (goodIn_of _ (by decide +kernel)) ggX10_reads_J0_length_8abf5
abbrev rX10_reads : Room := { frames := 4, cells := 0, slots := 0, locals := 85 }
noncomputable def bb_X10_reads_13 (Z : Nat → Nat) (M : gMem) (x0 : Nat) (x1 : Nat) (x2 : Int32) (x3 : Int32) (x4 : Int32) : Option ((gMem × Int32) ⊕ (Int32 × gMem)) :=
  (if x3 ≤ x4 then oI (some ((1 : Int32), M)) else ck (mT M x0 = 9) <| bd (f_X10_at M x0 ((x2 + x4))) fun r2 M2 => ck (x1 < 94) <| bd (f_J0_charAt_5068e Z M2 x1 x4) fun r4 M4 => (if r2 = r4 then some (.inl (M4, (x4 + (1 : Int32)))) else oI (some ((0 : Int32), M4))))
noncomputable def lp_X10_reads_13 (Z : Nat → Nat) (M : gMem) (x0 : Nat) (x1 : Nat) (x2 : Int32) (x3 : Int32) (x4 : Int32) : Option (Int32 × gMem) :=
  lp (fun (q : gMem × Int32) => bb_X10_reads_13 Z q.1 x0 x1 x2 x3 q.2) (M, x4)
noncomputable def b_X10_reads_0 (Z : Nat → Nat) (M : gMem) (x0 : Nat) (x1 : Nat) (x2 : Int32) (x3 : Int32) : Option (Int32 × gMem) :=
  ck (x1 < 94) <| bd (f_J0_length_8abf5 Z M x1) fun r7 M7 => (if r7 = x3 then lp_X10_reads_13 Z M7 x0 x1 x2 x3 ((0 : Int32)) else some ((0 : Int32), M7))
noncomputable def f_X10_reads (Z : Nat → Nat) (M : gMem) (x0 : Nat) (x1 : Nat) (x2 : Int32) (x3 : Int32) : Option (Int32 × gMem) :=
  b_X10_reads_0 Z M x0 x1 x2 x3
set_option maxHeartbeats 4000000 in
set_option maxRecDepth 100000 in
theorem tb_X10_reads_13 (X : gX p s m args meth c D cy B (gSt Z B H0) RX10 cX10_reads wsX10_reads 5) (hr : meth.sig.returnType = (some .boolean)) {Q : State → Prop} : ∀ (M : gMem) (x0 : Nat) (x1 : Nat) (x2 : Int32) (x3 : Int32) (x4 : Int32) (z : (gMem × Int32) ⊕ (Int32 × gMem)), bb_X10_reads_13 Z M x0 x1 x2 x3 x4 = some z → (Sum.elim (fun (q : gMem × Int32) => gGo p l e rX10_reads s m args below meth c D cy B H0 5 0 0 Q 13 [(0, vR (some x0)), (1, vR (some (Z (100 + x1)))), (2, vI x2), (3, vI x3), (4, vI q.2)] [] q.1) (fun (r : Int32 × gMem) => Q = gMQ below D cy B H0 args s 0 0 (some (vI r.1)) r.2)) z → gGo p l e rX10_reads s m args below meth c D cy B H0 5 0 0 Q 13 [(0, vR (some x0)), (1, vR (some (Z (100 + x1)))), (2, vI x2), (3, vI x3), (4, vI x4)] [] M := by
  intro M x0 x1 x2 x3 x4 z hf hK
  unfold bb_X10_reads_13 at hf
  refine g_iload X dX10_reads_13 rfl ?_
  refine g_iload_n X dX10_reads_15 rfl rfl ?_
  refine g_icmp_ge (tgt := 44) X dX10_reads_16 (by decide) (fun hc => ?_) (fun hc => ?_)
  · have hf := ife_t hc hf
    refine g_iconst (v := (1 : Int32)) X dX10_reads_44 (by decide) ?_
    obtain ⟨w1, hw1, hz1⟩ := oI_e hf
    subst hz1
    have hf := hw1
    cases hf
    refine g_eqQ hK ?_
    exact g_zret X hr (gnb (Or.inr rfl)) dX10_reads_45
  · have hf := ife_f hc hf
    refine g_aload_n X dX10_reads_19 rfl rfl ?_
    refine g_iload_n X dX10_reads_20 rfl rfl ?_
    refine g_iload X dX10_reads_21 rfl ?_
    refine g_iadd X dX10_reads_23 ?_
    obtain ⟨hT3, hf⟩ := ck_e hf
    obtain ⟨r2, M2, hq2, hf⟩ := bd_e hf
    refine g_callV (ci := 8) (b := x0) (As := [vI (x2 + x4)]) (st := []) (v := some (vI r2)) (M1 := M2) X (m_X10_at l hq2) (cwV 1 X.2.2.1 gX10_reads_X10_at rfl rfl rfl (by decide +kernel) ⟨Nat.le_of_ble_eq_true rfl, Nat.le_of_ble_eq_true rfl⟩) rfl rfl rfl hT3 (by decide) rfl (Nat.le_of_ble_eq_true rfl) dX10_reads_24 ⟨by decide, by decide⟩ ?_
    refine g_aload_n X dX10_reads_27 rfl rfl ?_
    refine g_iload X dX10_reads_28 rfl ?_
    obtain ⟨hg5, hf⟩ := ck_e hf
    obtain ⟨r4, M4, hq4, hf⟩ := bd_e hf
    refine g_callV0 (C := RJ0) (b := (Z (100 + x1))) (As := [vI x4]) (st := [vI r2]) (v := some (vI r4)) (M1 := M4) X (m_J0_charAt_5068e l hq4) (cwV 1 X.2.2.1 gX10_reads_J0_charAt_5068e rfl rfl rfl (by decide +kernel) ⟨Nat.le_of_ble_eq_true rfl, Nat.le_of_ble_eq_true rfl⟩) rfl rfl rfl (fun H hW => gO_recv (gSt_sO X hg5) hW) (Nat.le_of_ble_eq_true rfl) dX10_reads_30 ⟨by decide, by decide⟩ ?_
    refine g_icmp_eq (tgt := 38) X dX10_reads_33 (by decide) (fun hc => ?_) (fun hc => ?_)
    · have hf := ife_t hc hf
      refine g_iinc (v := (1 : Int32)) (lv' := [(4, vI (x4 + (1 : Int32))), (0, vR (some x0)), (1, vR (some (Z (100 + x1)))), (2, vI x2), (3, vI x3)]) X dX10_reads_38 rfl (by decide) (by decide) rfl ?_
      refine g_goto (tgt := 13) X dX10_reads_41 (by decide) ?_
      cases hf
      refine g_sub (lvsub_of _ _ [1, 2, 3, 4, 0] rfl) ?_
      exact hK
    · have hf := ife_f hc hf
      refine g_iconst (v := (0 : Int32)) X dX10_reads_36 (by decide) ?_
      obtain ⟨w6, hw6, hz6⟩ := oI_e hf
      subst hz6
      have hf := hw6
      cases hf
      refine g_eqQ hK ?_
      exact g_zret X hr (gnb (Or.inl rfl)) dX10_reads_37
set_option maxHeartbeats 4000000 in
set_option maxRecDepth 100000 in
theorem tl_X10_reads_13 (X : gX p s m args meth c D cy B (gSt Z B H0) RX10 cX10_reads wsX10_reads 5) (hr : meth.sig.returnType = (some .boolean)) {Q : State → Prop} : ∀ (M : gMem) (x0 : Nat) (x1 : Nat) (x2 : Int32) (x3 : Int32) (x4 : Int32) (z : Int32 × gMem), lp_X10_reads_13 Z M x0 x1 x2 x3 x4 = some z → (fun (r : Int32 × gMem) => Q = gMQ below D cy B H0 args s 0 0 (some (vI r.1)) r.2) z → gGo p l e rX10_reads s m args below meth c D cy B H0 5 0 0 Q 13 [(0, vR (some x0)), (1, vR (some (Z (100 + x1)))), (2, vI x2), (3, vI x3), (4, vI x4)] [] M := by
  intro M x0 x1 x2 x3 x4 z hf hK
  refine lp_ind (P := (fun (q : gMem × Int32) (z : Int32 × gMem) => (fun (r : Int32 × gMem) => Q = gMQ below D cy B H0 args s 0 0 (some (vI r.1)) r.2) z → gGo p l e rX10_reads s m args below meth c D cy B H0 5 0 0 Q 13 [(0, vR (some x0)), (1, vR (some (Z (100 + x1)))), (2, vI x2), (3, vI x3), (4, vI q.2)] [] q.1)) (fun q z hq => ?_) _ _ hf hK
  intro hK
  obtain ⟨w, hw, hm⟩ := hq
  refine tb_X10_reads_13 X hr _ _ _ _ _ _ w hw ?_
  cases w with
  | inl a => exact hm hK
  | inr b => cases hm; exact hK
set_option maxHeartbeats 4000000 in
set_option maxRecDepth 100000 in
theorem t_X10_reads_0 (X : gX p s m args meth c D cy B (gSt Z B H0) RX10 cX10_reads wsX10_reads 5) (hr : meth.sig.returnType = (some .boolean)) {Q : State → Prop} : ∀ (M : gMem) (x0 : Nat) (x1 : Nat) (x2 : Int32) (x3 : Int32) (z : Int32 × gMem), b_X10_reads_0 Z M x0 x1 x2 x3 = some z → (fun (r : Int32 × gMem) => Q = gMQ below D cy B H0 args s 0 0 (some (vI r.1)) r.2) z → gGo p l e rX10_reads s m args below meth c D cy B H0 5 0 0 Q 0 [(0, vR (some x0)), (1, vR (some (Z (100 + x1)))), (2, vI x2), (3, vI x3)] [] M := by
  intro M x0 x1 x2 x3 z hf hK
  unfold b_X10_reads_0 at hf
  refine g_aload_n X dX10_reads_0 rfl rfl ?_
  obtain ⟨hg8, hf⟩ := ck_e hf
  obtain ⟨r7, M7, hq7, hf⟩ := bd_e hf
  refine g_callV0 (C := RJ0) (b := (Z (100 + x1))) (As := []) (st := []) (v := some (vI r7)) (M1 := M7) X (m_J0_length_8abf5 l hq7) (cwV 0 X.2.2.1 gX10_reads_J0_length_8abf5 rfl rfl rfl (by decide +kernel) ⟨Nat.le_of_ble_eq_true rfl, Nat.le_of_ble_eq_true rfl⟩) rfl rfl rfl (fun H hW => gO_recv (gSt_sO X hg8) hW) (Nat.le_of_ble_eq_true rfl) dX10_reads_1 ⟨by decide, by decide⟩ ?_
  refine g_iload_n X dX10_reads_4 rfl rfl ?_
  refine g_icmp_eq (tgt := 10) X dX10_reads_5 (by decide) (fun hc => ?_) (fun hc => ?_)
  · have hf := ife_t hc hf
    refine g_iconst (v := (0 : Int32)) X dX10_reads_10 (by decide) ?_
    refine g_istore (lv' := [(4, vI (0 : Int32)), (0, vR (some x0)), (1, vR (some (Z (100 + x1)))), (2, vI x2), (3, vI x3)]) X dX10_reads_11 (by decide) rfl ?_
    refine g_sub (lvsub_of _ _ [1, 2, 3, 4, 0] rfl) ?_
    exact tl_X10_reads_13 X hr _ _ _ _ _ _ _ hf hK
  · have hf := ife_f hc hf
    refine g_iconst (v := (0 : Int32)) X dX10_reads_8 (by decide) ?_
    cases hf
    refine g_eqQ hK ?_
    exact g_zret X hr (gnb (Or.inl rfl)) dX10_reads_9
set_option maxHeartbeats 4000000 in
set_option maxRecDepth 100000 in
theorem m_X10_reads (l : Launch) {D : va_G} {cy : Nat → ClassId} {B : Nat} {H0 : Heap} {Z : Nat → Nat} {M M1 : gMem} {x0 : Nat} {x1 : Nat} {x2 : Int32} {x3 : Int32} {r : Int32} (hf : f_X10_reads Z M x0 x1 x2 x3 = some (r, M1)) : Met l yX10_reads wsX10_reads rX10_reads (va_Pc (Value.ref x0 :: List.map gv [vR (some (Z (100 + x1))), vI x2, vI x3]) (gPre D cy B H0 (gSt Z B H0) M)) (gQ D cy B H0 (some (vI r)) M1) 0 0 (gA B) := by
  refine Met.ofW (cc := cX10_reads) (maxL := 5) (ret := (some .boolean)) (by decide) rfl ?_
  intro p e s m args below meth c s₁ Bd hml hv
  obtain ⟨rfl, hW, hKK, hFs⟩ := hv
  have X : gX p s m _ meth c D cy B (gSt Z B H0) RX10 cX10_reads wsX10_reads 5 := ⟨Bd.exec, Bd.bytes, atoms_spec (ws := wsX10_reads) Bd.pre, findClass_of_methodNamed Bd.named, hml, hKK, by rw [hW.1]; exact hW.2.1, Bd.notSynchronized, hFs⟩
  have hr := Bd.returns
  have hl := lv_entry ([.ref x0, .ref (Z (100 + x1)), .int x2, .int x3]) (n := 5) (Nat.le_of_ble_eq_true rfl)
  show W p l e rX10_reads s m _ below meth c s.heap [] 0 0 _ (entryFrame m ([.ref x0, .ref (Z (100 + x1)), .int x2, .int x3] : List Value).toArray 5)
  rw [lg_entry_eq]
  generalize (lg_sl ([.ref x0, .ref (Z (100 + x1)), .int x2, .int x3]) ++ List.replicate (5 - (lg_sl ([.ref x0, .ref (Z (100 + x1)), .int x2, .int x3])).length) Slot.unset).toArray = ls at hl ⊢
  have hl : lv_has ls 5 (List.map gq [(0, vR (some x0)), (1, vR (some (Z (100 + x1)))), (2, vI x2), (3, vI x3)]) := hl
  exact t_X10_reads_0 X hr _ _ _ _ _ _ hf rfl s.heap [] ls hW va_S.rf (lv_has_sub hl (lvsub_of _ _ [0, 1, 2, 3] rfl))
end
