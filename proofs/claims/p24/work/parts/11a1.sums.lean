section
variable {p : Program} {l : Launch} {e : Env} {s : State} {m : MethodId} {args : Array Value} {below : List Frame} {meth : Method} {c : Code} {D : va_G} {cy : Nat → ClassId} {B : Nat} {H0 : Heap} {Z : Nat → Nat}
/-! ## TideLots$Sums.add(LTideLots$Sign;I)V -/
theorem dX9_add_0 : decode cX9_add 0 = .ok (.aload_n 0, 1) := by decide +kernel
theorem dX9_add_1 : decode cX9_add 1 = .ok (.getfield 28, 3) := by decide +kernel
theorem dX9_add_4 : decode cX9_add 4 = .ok (.sipush 400, 3) := by decide +kernel
theorem dX9_add_7 : decode cX9_add 7 = .ok (.if_icmp .ge 33, 3) := by decide +kernel
theorem dX9_add_10 : decode cX9_add 10 = .ok (.aload_n 0, 1) := by decide +kernel
theorem dX9_add_11 : decode cX9_add 11 = .ok (.getfield 11, 3) := by decide +kernel
theorem dX9_add_14 : decode cX9_add 14 = .ok (.aload_n 0, 1) := by decide +kernel
theorem dX9_add_15 : decode cX9_add 15 = .ok (.getfield 28, 3) := by decide +kernel
theorem dX9_add_18 : decode cX9_add 18 = .ok (.aload_n 1, 1) := by decide +kernel
theorem dX9_add_19 : decode cX9_add 19 = .ok (.aastore, 1) := by decide +kernel
theorem dX9_add_20 : decode cX9_add 20 = .ok (.aload_n 0, 1) := by decide +kernel
theorem dX9_add_21 : decode cX9_add 21 = .ok (.getfield 17, 3) := by decide +kernel
theorem dX9_add_24 : decode cX9_add 24 = .ok (.aload_n 0, 1) := by decide +kernel
theorem dX9_add_25 : decode cX9_add 25 = .ok (.getfield 28, 3) := by decide +kernel
theorem dX9_add_28 : decode cX9_add 28 = .ok (.iload_n 2, 1) := by decide +kernel
theorem dX9_add_29 : decode cX9_add 29 = .ok (.iastore, 1) := by decide +kernel
theorem dX9_add_30 : decode cX9_add 30 = .ok (.aload_n 0, 1) := by decide +kernel
theorem dX9_add_31 : decode cX9_add 31 = .ok (.dup, 1) := by decide +kernel
theorem dX9_add_32 : decode cX9_add 32 = .ok (.getfield 28, 3) := by decide +kernel
theorem dX9_add_35 : decode cX9_add 35 = .ok (.iconst 1, 1) := by decide +kernel
theorem dX9_add_36 : decode cX9_add 36 = .ok (.iadd, 1) := by decide +kernel
theorem dX9_add_37 : decode cX9_add 37 = .ok (.putfield 28, 3) := by decide +kernel
theorem dX9_add_40 : decode cX9_add 40 = .ok (.return_, 1) := by decide +kernel
theorem k_X9_add_f28 : Cond.fieldLink RX9 28 "TideLots$Sums" "length" "I" ∈ wsX9_add := by decide +kernel
theorem i_X9_add_X9 : ∀ w ∈ u_ws RX9 TX9 4, w ∈ wsX9_add := by decide +kernel
theorem k_X9_add_f11 : Cond.fieldLink RX9 11 "TideLots$Sums" "signs" "[LTideLots$Sign;" ∈ wsX9_add := by decide +kernel
theorem k_X9_add_f17 : Cond.fieldLink RX9 17 "TideLots$Sums" "values" "[I" ∈ wsX9_add := by decide +kernel
abbrev rX9_add : Room := { frames := 0, cells := 0, slots := 0, locals := 0 }
noncomputable def b_X9_add_40 (Z : Nat → Nat) (M : gMem)  : Option (Unit × gMem) :=
  some ((), M)
noncomputable def b_X9_add_0 (Z : Nat → Nat) (M : gMem) (x0 : Nat) (x1 : Option Nat) (x2 : Int32) : Option (Unit × gMem) :=
  ck (mT M x0 = 8) <| (if (400 : Int32) ≤ (mI M x0 0) then b_X9_add_40 Z M  else dr ((mR M x0 1)) fun a2 => ck (mT M a2 = 27) <| ck (inb (mI M x0 0) (mL M a2)) <| dr (ordZ Z x1) fun o5 => lw (wR M a2 ((mI M x0 0)).toNatClampNeg x1) fun M6 => dr ((mR M6 x0 2)) fun a9 => ck (mT M6 a9 = 20) <| ck (inb (mI M6 x0 0) (mL M6 a9)) <| lw (wI M6 a9 ((mI M6 x0 0)).toNatClampNeg x2) fun M12 => lw (wI M12 x0 0 (((mI M12 x0 0) + (1 : Int32)))) fun M16 => b_X9_add_40 Z M16 )
noncomputable def f_X9_add (Z : Nat → Nat) (M : gMem) (x0 : Nat) (x1 : Option Nat) (x2 : Int32) : Option (Unit × gMem) :=
  b_X9_add_0 Z M x0 x1 x2
set_option maxHeartbeats 4000000 in
set_option maxRecDepth 100000 in
theorem t_X9_add_40 (X : gX p s m args meth c D cy B (gSt Z B H0) RX9 cX9_add wsX9_add 3) (hr : meth.sig.returnType = none) {Q : State → Prop} : ∀ (M : gMem)  (z : Unit × gMem), b_X9_add_40 Z M  = some z → (fun (r : Unit × gMem) => Q = gMQ below D cy B H0 args s 0 0 none r.2) z → gGo p l e rX9_add s m args below meth c D cy B H0 3 0 0 Q 40 [] [] M := by
  intro M  z hf hK
  unfold b_X9_add_40 at hf
  cases hf
  refine g_eqQ hK ?_
  exact g_vret X hr dX9_add_40
set_option maxHeartbeats 4000000 in
set_option maxRecDepth 100000 in
theorem t_X9_add_0 (X : gX p s m args meth c D cy B (gSt Z B H0) RX9 cX9_add wsX9_add 3) (hr : meth.sig.returnType = none) {Q : State → Prop} : ∀ (M : gMem) (x0 : Nat) (x1 : Option Nat) (x2 : Int32) (z : Unit × gMem), b_X9_add_0 Z M x0 x1 x2 = some z → (fun (r : Unit × gMem) => Q = gMQ below D cy B H0 args s 0 0 none r.2) z → gGo p l e rX9_add s m args below meth c D cy B H0 3 0 0 Q 0 [(0, vR (some x0)), (1, vR x1), (2, vI x2)] [] M := by
  intro M x0 x1 x2 z hf hK
  unfold b_X9_add_0 at hf
  refine g_aload_n X dX9_add_0 rfl rfl ?_
  obtain ⟨hT1, hf⟩ := ck_e hf
  refine g_get (ci := 7) (v := vI (mI M x0 0)) 0 X cdX9 i_X9_add_X9 (by decide) k_X9_add_f28 rfl dX9_add_1 rfl hT1 rfl ?_
  refine g_sipush (v := (400 : Int32)) X dX9_add_4 (by decide) ?_
  refine g_icmp_ge (tgt := 40) X dX9_add_7 (by decide) (fun hc => ?_) (fun hc => ?_)
  · have hf := ife_t hc hf
    refine g_sub (lvsub_of _ _ [] rfl) ?_
    exact t_X9_add_40 X hr _  _ hf hK
  · have hf := ife_f hc hf
    refine g_aload_n X dX9_add_10 rfl rfl ?_
    refine g_get (ci := 7) (v := vR (mR M x0 1)) 1 X cdX9 i_X9_add_X9 (by decide) k_X9_add_f11 rfl dX9_add_11 rfl hT1 rfl ?_
    refine g_aload_n X dX9_add_14 rfl rfl ?_
    refine g_get (ci := 7) (v := vI (mI M x0 0)) 0 X cdX9 i_X9_add_X9 (by decide) k_X9_add_f28 rfl dX9_add_15 rfl hT1 rfl ?_
    refine g_aload_n X dX9_add_18 rfl rfl ?_
    obtain ⟨a2, ha2, hf⟩ := dr_e hf
    obtain ⟨hT3, hf⟩ := ck_e hf
    obtain ⟨hg4, hf⟩ := ck_e hf
    obtain ⟨o5, ho5, hf⟩ := dr_e hf
    refine g_aastE X dX9_add_19 ha2 hT3 hg4 (ordZ_eq ho5) (ordZ_lt ho5) ?_
    obtain ⟨M6, hM6, hf⟩ := lw_e hf
    rw [← hM6]
    have hT7 : mT M6 x0 = 8 := by rw [hM6]; exact hT1
    have hT8 : mT M6 a2 = 27 := by rw [hM6]; exact hT3
    refine g_aload_n X dX9_add_20 rfl rfl ?_
    refine g_get (ci := 7) (v := vR (mR M6 x0 2)) 2 X cdX9 i_X9_add_X9 (by decide) k_X9_add_f17 rfl dX9_add_21 rfl hT7 rfl ?_
    refine g_aload_n X dX9_add_24 rfl rfl ?_
    refine g_get (ci := 7) (v := vI (mI M6 x0 0)) 0 X cdX9 i_X9_add_X9 (by decide) k_X9_add_f28 rfl dX9_add_25 rfl hT7 rfl ?_
    refine g_iload_n X dX9_add_28 rfl rfl ?_
    obtain ⟨a9, ha9, hf⟩ := dr_e hf
    obtain ⟨hT10, hf⟩ := ck_e hf
    obtain ⟨hg11, hf⟩ := ck_e hf
    refine g_iast X dX9_add_29 ha9 hT10 hg11 ?_
    obtain ⟨M12, hM12, hf⟩ := lw_e hf
    rw [← hM12]
    have hT13 : mT M12 x0 = 8 := by rw [hM12]; exact hT7
    have hT14 : mT M12 a2 = 27 := by rw [hM12]; exact hT8
    have hT15 : mT M12 a9 = 20 := by rw [hM12]; exact hT10
    refine g_aload_n X dX9_add_30 rfl rfl ?_
    refine g_dup X dX9_add_31 rfl ?_
    refine g_get (ci := 7) (v := vI (mI M12 x0 0)) 0 X cdX9 i_X9_add_X9 (by decide) k_X9_add_f28 rfl dX9_add_32 rfl hT13 rfl ?_
    refine g_iconst (v := (1 : Int32)) X dX9_add_35 (by decide) ?_
    refine g_iadd X dX9_add_36 ?_
    refine g_putI (ci := 7) 0 X cdX9 i_X9_add_X9 (by decide) k_X9_add_f28 rfl dX9_add_37 rfl hT13 (Or.inl rfl) rfl rfl rfl ?_
    obtain ⟨M16, hM16, hf⟩ := lw_e hf
    rw [← hM16]
    have hT17 : mT M16 x0 = 8 := by rw [hM16]; exact hT13
    have hT18 : mT M16 a2 = 27 := by rw [hM16]; exact hT14
    have hT19 : mT M16 a9 = 20 := by rw [hM16]; exact hT15
    refine g_sub (lvsub_of _ _ [] rfl) ?_
    exact t_X9_add_40 X hr _  _ hf hK
set_option maxHeartbeats 4000000 in
set_option maxRecDepth 100000 in
theorem m_X9_add (l : Launch) {D : va_G} {cy : Nat → ClassId} {B : Nat} {H0 : Heap} {Z : Nat → Nat} {M M1 : gMem} {x0 : Nat} {x1 : Option Nat} {x2 : Int32} {r : Unit} (hf : f_X9_add Z M x0 x1 x2 = some (r, M1)) : Met l yX9_add wsX9_add rX9_add (va_Pc (Value.ref x0 :: List.map gv [vR x1, vI x2]) (gPre D cy B H0 (gSt Z B H0) M)) (gQ D cy B H0 none M1) 0 0 (gA B) := by
  refine Met.ofW (cc := cX9_add) (maxL := 3) (ret := none) (by decide) rfl ?_
  intro p e s m args below meth c s₁ Bd hml hv
  obtain ⟨rfl, hW, hKK, hFs⟩ := hv
  have X : gX p s m _ meth c D cy B (gSt Z B H0) RX9 cX9_add wsX9_add 3 := ⟨Bd.exec, Bd.bytes, atoms_spec (ws := wsX9_add) Bd.pre, findClass_of_methodNamed Bd.named, hml, hKK, by rw [hW.1]; exact hW.2.1, Bd.notSynchronized, hFs⟩
  have hr := Bd.returns
  rcases x1 with _ | x1
  · have hl := lv_entry ([.ref x0, .null, .int x2]) (n := 3) (Nat.le_of_ble_eq_true rfl)
    show W p l e rX9_add s m _ below meth c s.heap [] 0 0 _ (entryFrame m ([.ref x0, .null, .int x2] : List Value).toArray 3)
    rw [lg_entry_eq]
    generalize (lg_sl ([.ref x0, .null, .int x2]) ++ List.replicate (3 - (lg_sl ([.ref x0, .null, .int x2])).length) Slot.unset).toArray = ls at hl ⊢
    have hl : lv_has ls 3 (List.map gq [(0, vR (some x0)), (1, vR none), (2, vI x2)]) := hl
    exact t_X9_add_0 X hr _ _ _ _ _ hf rfl s.heap [] ls hW va_S.rf (lv_has_sub hl (lvsub_of _ _ [0, 1, 2] rfl))
  · have hl := lv_entry ([.ref x0, .ref x1, .int x2]) (n := 3) (Nat.le_of_ble_eq_true rfl)
    show W p l e rX9_add s m _ below meth c s.heap [] 0 0 _ (entryFrame m ([.ref x0, .ref x1, .int x2] : List Value).toArray 3)
    rw [lg_entry_eq]
    generalize (lg_sl ([.ref x0, .ref x1, .int x2]) ++ List.replicate (3 - (lg_sl ([.ref x0, .ref x1, .int x2])).length) Slot.unset).toArray = ls at hl ⊢
    have hl : lv_has ls 3 (List.map gq [(0, vR (some x0)), (1, vR (some x1)), (2, vI x2)]) := hl
    exact t_X9_add_0 X hr _ _ _ _ _ hf rfl s.heap [] ls hW va_S.rf (lv_has_sub hl (lvsub_of _ _ [0, 1, 2] rfl))
/-! ## TideLots$Sums.copyFrom(LTideLots$Sums;)V -/
theorem dX9_copyFrom_0 : decode cX9_copyFrom 0 = .ok (.aload_n 0, 1) := by decide +kernel
theorem dX9_copyFrom_1 : decode cX9_copyFrom 1 = .ok (.aload_n 1, 1) := by decide +kernel
theorem dX9_copyFrom_2 : decode cX9_copyFrom 2 = .ok (.getfield 28, 3) := by decide +kernel
theorem dX9_copyFrom_5 : decode cX9_copyFrom 5 = .ok (.putfield 28, 3) := by decide +kernel
theorem dX9_copyFrom_8 : decode cX9_copyFrom 8 = .ok (.iconst 0, 1) := by decide +kernel
theorem dX9_copyFrom_9 : decode cX9_copyFrom 9 = .ok (.istore_n 2, 1) := by decide +kernel
theorem dX9_copyFrom_10 : decode cX9_copyFrom 10 = .ok (.iload_n 2, 1) := by decide +kernel
theorem dX9_copyFrom_11 : decode cX9_copyFrom 11 = .ok (.aload_n 0, 1) := by decide +kernel
theorem dX9_copyFrom_12 : decode cX9_copyFrom 12 = .ok (.getfield 28, 3) := by decide +kernel
theorem dX9_copyFrom_15 : decode cX9_copyFrom 15 = .ok (.if_icmp .ge 33, 3) := by decide +kernel
theorem dX9_copyFrom_18 : decode cX9_copyFrom 18 = .ok (.aload_n 0, 1) := by decide +kernel
theorem dX9_copyFrom_19 : decode cX9_copyFrom 19 = .ok (.getfield 11, 3) := by decide +kernel
theorem dX9_copyFrom_22 : decode cX9_copyFrom 22 = .ok (.iload_n 2, 1) := by decide +kernel
theorem dX9_copyFrom_23 : decode cX9_copyFrom 23 = .ok (.aload_n 1, 1) := by decide +kernel
theorem dX9_copyFrom_24 : decode cX9_copyFrom 24 = .ok (.getfield 11, 3) := by decide +kernel
theorem dX9_copyFrom_27 : decode cX9_copyFrom 27 = .ok (.iload_n 2, 1) := by decide +kernel
theorem dX9_copyFrom_28 : decode cX9_copyFrom 28 = .ok (.aaload, 1) := by decide +kernel
theorem dX9_copyFrom_29 : decode cX9_copyFrom 29 = .ok (.aastore, 1) := by decide +kernel
theorem dX9_copyFrom_30 : decode cX9_copyFrom 30 = .ok (.aload_n 0, 1) := by decide +kernel
theorem dX9_copyFrom_31 : decode cX9_copyFrom 31 = .ok (.getfield 17, 3) := by decide +kernel
theorem dX9_copyFrom_34 : decode cX9_copyFrom 34 = .ok (.iload_n 2, 1) := by decide +kernel
theorem dX9_copyFrom_35 : decode cX9_copyFrom 35 = .ok (.aload_n 1, 1) := by decide +kernel
theorem dX9_copyFrom_36 : decode cX9_copyFrom 36 = .ok (.getfield 17, 3) := by decide +kernel
theorem dX9_copyFrom_39 : decode cX9_copyFrom 39 = .ok (.iload_n 2, 1) := by decide +kernel
theorem dX9_copyFrom_40 : decode cX9_copyFrom 40 = .ok (.iaload, 1) := by decide +kernel
theorem dX9_copyFrom_41 : decode cX9_copyFrom 41 = .ok (.iastore, 1) := by decide +kernel
theorem dX9_copyFrom_42 : decode cX9_copyFrom 42 = .ok (.iinc 2 1, 3) := by decide +kernel
theorem dX9_copyFrom_45 : decode cX9_copyFrom 45 = .ok (.goto (-35), 3) := by decide +kernel
theorem dX9_copyFrom_48 : decode cX9_copyFrom 48 = .ok (.return_, 1) := by decide +kernel
theorem k_X9_copyFrom_f28 : Cond.fieldLink RX9 28 "TideLots$Sums" "length" "I" ∈ wsX9_copyFrom := by decide +kernel
theorem i_X9_copyFrom_X9 : ∀ w ∈ u_ws RX9 TX9 4, w ∈ wsX9_copyFrom := by decide +kernel
theorem k_X9_copyFrom_f11 : Cond.fieldLink RX9 11 "TideLots$Sums" "signs" "[LTideLots$Sign;" ∈ wsX9_copyFrom := by decide +kernel
theorem k_X9_copyFrom_f17 : Cond.fieldLink RX9 17 "TideLots$Sums" "values" "[I" ∈ wsX9_copyFrom := by decide +kernel
abbrev rX9_copyFrom : Room := { frames := 0, cells := 0, slots := 0, locals := 0 }
noncomputable def bb_X9_copyFrom_10 (Z : Nat → Nat) (M : gMem) (x0 : Nat) (x1 : Option Nat) (x2 : Int32) : Option ((gMem × Int32) ⊕ (Unit × gMem)) :=
  ck (mT M x0 = 8) <| (if (mI M x0 0) ≤ x2 then oI (some ((), M)) else dr x1 fun a3 => ck (mT M a3 = 8) <| dr ((mR M a3 1)) fun a5 => ck (mT M a5 = 27) <| ck (inb x2 (mL M a5)) <| dr ((mR M x0 1)) fun a8 => ck (mT M a8 = 27) <| ck (inb x2 (mL M a8)) <| dr (ordZ Z ((mR M a5 x2.toNatClampNeg))) fun o11 => lw (wR M a8 x2.toNatClampNeg ((mR M a5 x2.toNatClampNeg))) fun M12 => dr ((mR M12 a3 2)) fun a17 => ck (mT M12 a17 = 20) <| ck (inb x2 (mL M12 a17)) <| dr ((mR M12 x0 2)) fun a20 => ck (mT M12 a20 = 20) <| ck (inb x2 (mL M12 a20)) <| lw (wI M12 a20 x2.toNatClampNeg ((mI M12 a17 x2.toNatClampNeg))) fun M23 => some (.inl (M23, (x2 + (1 : Int32)))))
noncomputable def lp_X9_copyFrom_10 (Z : Nat → Nat) (M : gMem) (x0 : Nat) (x1 : Option Nat) (x2 : Int32) : Option (Unit × gMem) :=
  lp (fun (q : gMem × Int32) => bb_X9_copyFrom_10 Z q.1 x0 x1 q.2) (M, x2)
noncomputable def b_X9_copyFrom_0 (Z : Nat → Nat) (M : gMem) (x0 : Nat) (x1 : Option Nat) : Option (Unit × gMem) :=
  dr x1 fun a30 => ck (mT M a30 = 8) <| ck (mT M x0 = 8) <| lw (wI M x0 0 ((mI M a30 0))) fun M33 => lp_X9_copyFrom_10 Z M33 x0 x1 ((0 : Int32))
noncomputable def f_X9_copyFrom (Z : Nat → Nat) (M : gMem) (x0 : Nat) (x1 : Option Nat) : Option (Unit × gMem) :=
  b_X9_copyFrom_0 Z M x0 x1
set_option maxHeartbeats 4000000 in
set_option maxRecDepth 100000 in
theorem tb_X9_copyFrom_10 (X : gX p s m args meth c D cy B (gSt Z B H0) RX9 cX9_copyFrom wsX9_copyFrom 3) (hr : meth.sig.returnType = none) {Q : State → Prop} : ∀ (M : gMem) (x0 : Nat) (x1 : Option Nat) (x2 : Int32) (z : (gMem × Int32) ⊕ (Unit × gMem)), bb_X9_copyFrom_10 Z M x0 x1 x2 = some z → (Sum.elim (fun (q : gMem × Int32) => gGo p l e rX9_copyFrom s m args below meth c D cy B H0 3 0 0 Q 10 [(0, vR (some x0)), (1, vR x1), (2, vI q.2)] [] q.1) (fun (r : Unit × gMem) => Q = gMQ below D cy B H0 args s 0 0 none r.2)) z → gGo p l e rX9_copyFrom s m args below meth c D cy B H0 3 0 0 Q 10 [(0, vR (some x0)), (1, vR x1), (2, vI x2)] [] M := by
  intro M x0 x1 x2 z hf hK
  unfold bb_X9_copyFrom_10 at hf
  refine g_iload_n X dX9_copyFrom_10 rfl rfl ?_
  refine g_aload_n X dX9_copyFrom_11 rfl rfl ?_
  obtain ⟨hT1, hf⟩ := ck_e hf
  refine g_get (ci := 7) (v := vI (mI M x0 0)) 0 X cdX9 i_X9_copyFrom_X9 (by decide) k_X9_copyFrom_f28 rfl dX9_copyFrom_12 rfl hT1 rfl ?_
  refine g_icmp_ge (tgt := 48) X dX9_copyFrom_15 (by decide) (fun hc => ?_) (fun hc => ?_)
  · have hf := ife_t hc hf
    obtain ⟨w2, hw2, hz2⟩ := oI_e hf
    subst hz2
    have hf := hw2
    cases hf
    refine g_eqQ hK ?_
    exact g_vret X hr dX9_copyFrom_48
  · have hf := ife_f hc hf
    refine g_aload_n X dX9_copyFrom_18 rfl rfl ?_
    refine g_get (ci := 7) (v := vR (mR M x0 1)) 1 X cdX9 i_X9_copyFrom_X9 (by decide) k_X9_copyFrom_f11 rfl dX9_copyFrom_19 rfl hT1 rfl ?_
    refine g_iload_n X dX9_copyFrom_22 rfl rfl ?_
    refine g_aload_n X dX9_copyFrom_23 rfl rfl ?_
    obtain ⟨a3, ha3, hf⟩ := dr_e hf
    obtain ⟨hT4, hf⟩ := ck_e hf
    refine g_get (ci := 7) (v := vR (mR M a3 1)) 1 X cdX9 i_X9_copyFrom_X9 (by decide) k_X9_copyFrom_f11 rfl dX9_copyFrom_24 ha3 hT4 rfl ?_
    refine g_iload_n X dX9_copyFrom_27 rfl rfl ?_
    obtain ⟨a5, ha5, hf⟩ := dr_e hf
    obtain ⟨hT6, hf⟩ := ck_e hf
    obtain ⟨hg7, hf⟩ := ck_e hf
    refine g_aald (t0 := 7) X dX9_copyFrom_28 ha5 hT6 (by decide) rfl hg7 ?_
    obtain ⟨a8, ha8, hf⟩ := dr_e hf
    obtain ⟨hT9, hf⟩ := ck_e hf
    obtain ⟨hg10, hf⟩ := ck_e hf
    obtain ⟨o11, ho11, hf⟩ := dr_e hf
    refine g_aastE X dX9_copyFrom_29 ha8 hT9 hg10 (ordZ_eq ho11) (ordZ_lt ho11) ?_
    obtain ⟨M12, hM12, hf⟩ := lw_e hf
    rw [← hM12]
    have hT13 : mT M12 x0 = 8 := by rw [hM12]; exact hT1
    have hT14 : mT M12 a3 = 8 := by rw [hM12]; exact hT4
    have hT15 : mT M12 a5 = 27 := by rw [hM12]; exact hT6
    have hT16 : mT M12 a8 = 27 := by rw [hM12]; exact hT9
    refine g_aload_n X dX9_copyFrom_30 rfl rfl ?_
    refine g_get (ci := 7) (v := vR (mR M12 x0 2)) 2 X cdX9 i_X9_copyFrom_X9 (by decide) k_X9_copyFrom_f17 rfl dX9_copyFrom_31 rfl hT13 rfl ?_
    refine g_iload_n X dX9_copyFrom_34 rfl rfl ?_
    refine g_aload_n X dX9_copyFrom_35 rfl rfl ?_
    refine g_get (ci := 7) (v := vR (mR M12 a3 2)) 2 X cdX9 i_X9_copyFrom_X9 (by decide) k_X9_copyFrom_f17 rfl dX9_copyFrom_36 ha3 hT14 rfl ?_
    refine g_iload_n X dX9_copyFrom_39 rfl rfl ?_
    obtain ⟨a17, ha17, hf⟩ := dr_e hf
    obtain ⟨hT18, hf⟩ := ck_e hf
    obtain ⟨hg19, hf⟩ := ck_e hf
    refine g_iald X dX9_copyFrom_40 ha17 hT18 hg19 ?_
    obtain ⟨a20, ha20, hf⟩ := dr_e hf
    obtain ⟨hT21, hf⟩ := ck_e hf
    obtain ⟨hg22, hf⟩ := ck_e hf
    refine g_iast X dX9_copyFrom_41 ha20 hT21 hg22 ?_
    obtain ⟨M23, hM23, hf⟩ := lw_e hf
    rw [← hM23]
    have hT24 : mT M23 x0 = 8 := by rw [hM23]; exact hT13
    have hT25 : mT M23 a3 = 8 := by rw [hM23]; exact hT14
    have hT26 : mT M23 a5 = 27 := by rw [hM23]; exact hT15
    have hT27 : mT M23 a8 = 27 := by rw [hM23]; exact hT16
    have hT28 : mT M23 a17 = 20 := by rw [hM23]; exact hT18
    have hT29 : mT M23 a20 = 20 := by rw [hM23]; exact hT21
    refine g_iinc (v := (1 : Int32)) (lv' := [(2, vI (x2 + (1 : Int32))), (0, vR (some x0)), (1, vR x1)]) X dX9_copyFrom_42 rfl (by decide) (by decide) rfl ?_
    refine g_goto (tgt := 10) X dX9_copyFrom_45 (by decide) ?_
    cases hf
    refine g_sub (lvsub_of _ _ [1, 2, 0] rfl) ?_
    exact hK
set_option maxHeartbeats 4000000 in
set_option maxRecDepth 100000 in
theorem tl_X9_copyFrom_10 (X : gX p s m args meth c D cy B (gSt Z B H0) RX9 cX9_copyFrom wsX9_copyFrom 3) (hr : meth.sig.returnType = none) {Q : State → Prop} : ∀ (M : gMem) (x0 : Nat) (x1 : Option Nat) (x2 : Int32) (z : Unit × gMem), lp_X9_copyFrom_10 Z M x0 x1 x2 = some z → (fun (r : Unit × gMem) => Q = gMQ below D cy B H0 args s 0 0 none r.2) z → gGo p l e rX9_copyFrom s m args below meth c D cy B H0 3 0 0 Q 10 [(0, vR (some x0)), (1, vR x1), (2, vI x2)] [] M := by
  intro M x0 x1 x2 z hf hK
  refine lp_ind (P := (fun (q : gMem × Int32) (z : Unit × gMem) => (fun (r : Unit × gMem) => Q = gMQ below D cy B H0 args s 0 0 none r.2) z → gGo p l e rX9_copyFrom s m args below meth c D cy B H0 3 0 0 Q 10 [(0, vR (some x0)), (1, vR x1), (2, vI q.2)] [] q.1)) (fun q z hq => ?_) _ _ hf hK
  intro hK
  obtain ⟨w, hw, hm⟩ := hq
  refine tb_X9_copyFrom_10 X hr _ _ _ _ w hw ?_
  cases w with
  | inl a => exact hm hK
  | inr b => cases hm; exact hK
set_option maxHeartbeats 4000000 in
set_option maxRecDepth 100000 in
theorem t_X9_copyFrom_0 (X : gX p s m args meth c D cy B (gSt Z B H0) RX9 cX9_copyFrom wsX9_copyFrom 3) (hr : meth.sig.returnType = none) {Q : State → Prop} : ∀ (M : gMem) (x0 : Nat) (x1 : Option Nat) (z : Unit × gMem), b_X9_copyFrom_0 Z M x0 x1 = some z → (fun (r : Unit × gMem) => Q = gMQ below D cy B H0 args s 0 0 none r.2) z → gGo p l e rX9_copyFrom s m args below meth c D cy B H0 3 0 0 Q 0 [(0, vR (some x0)), (1, vR x1)] [] M := by
  intro M x0 x1 z hf hK
  unfold b_X9_copyFrom_0 at hf
  refine g_aload_n X dX9_copyFrom_0 rfl rfl ?_
  refine g_aload_n X dX9_copyFrom_1 rfl rfl ?_
  obtain ⟨a30, ha30, hf⟩ := dr_e hf
  obtain ⟨hT31, hf⟩ := ck_e hf
  refine g_get (ci := 7) (v := vI (mI M a30 0)) 0 X cdX9 i_X9_copyFrom_X9 (by decide) k_X9_copyFrom_f28 rfl dX9_copyFrom_2 ha30 hT31 rfl ?_
  obtain ⟨hT32, hf⟩ := ck_e hf
  refine g_putI (ci := 7) 0 X cdX9 i_X9_copyFrom_X9 (by decide) k_X9_copyFrom_f28 rfl dX9_copyFrom_5 rfl hT32 (Or.inl rfl) rfl rfl rfl ?_
  obtain ⟨M33, hM33, hf⟩ := lw_e hf
  rw [← hM33]
  have hT34 : mT M33 a30 = 8 := by rw [hM33]; exact hT31
  have hT35 : mT M33 x0 = 8 := by rw [hM33]; exact hT32
  refine g_iconst (v := (0 : Int32)) X dX9_copyFrom_8 (by decide) ?_
  refine g_istore_n (lv' := [(2, vI (0 : Int32)), (0, vR (some x0)), (1, vR x1)]) X dX9_copyFrom_9 rfl (by decide) rfl ?_
  refine g_sub (lvsub_of _ _ [1, 2, 0] rfl) ?_
  exact tl_X9_copyFrom_10 X hr _ _ _ _ _ hf hK
set_option maxHeartbeats 4000000 in
set_option maxRecDepth 100000 in
theorem m_X9_copyFrom (l : Launch) {D : va_G} {cy : Nat → ClassId} {B : Nat} {H0 : Heap} {Z : Nat → Nat} {M M1 : gMem} {x0 : Nat} {x1 : Option Nat} {r : Unit} (hf : f_X9_copyFrom Z M x0 x1 = some (r, M1)) : Met l yX9_copyFrom wsX9_copyFrom rX9_copyFrom (va_Pc (Value.ref x0 :: List.map gv [vR x1]) (gPre D cy B H0 (gSt Z B H0) M)) (gQ D cy B H0 none M1) 0 0 (gA B) := by
  refine Met.ofW (cc := cX9_copyFrom) (maxL := 3) (ret := none) (by decide) rfl ?_
  intro p e s m args below meth c s₁ Bd hml hv
  obtain ⟨rfl, hW, hKK, hFs⟩ := hv
  have X : gX p s m _ meth c D cy B (gSt Z B H0) RX9 cX9_copyFrom wsX9_copyFrom 3 := ⟨Bd.exec, Bd.bytes, atoms_spec (ws := wsX9_copyFrom) Bd.pre, findClass_of_methodNamed Bd.named, hml, hKK, by rw [hW.1]; exact hW.2.1, Bd.notSynchronized, hFs⟩
  have hr := Bd.returns
  rcases x1 with _ | x1
  · have hl := lv_entry ([.ref x0, .null]) (n := 3) (Nat.le_of_ble_eq_true rfl)
    show W p l e rX9_copyFrom s m _ below meth c s.heap [] 0 0 _ (entryFrame m ([.ref x0, .null] : List Value).toArray 3)
    rw [lg_entry_eq]
    generalize (lg_sl ([.ref x0, .null]) ++ List.replicate (3 - (lg_sl ([.ref x0, .null])).length) Slot.unset).toArray = ls at hl ⊢
    have hl : lv_has ls 3 (List.map gq [(0, vR (some x0)), (1, vR none)]) := hl
    exact t_X9_copyFrom_0 X hr _ _ _ _ hf rfl s.heap [] ls hW va_S.rf (lv_has_sub hl (lvsub_of _ _ [0, 1] rfl))
  · have hl := lv_entry ([.ref x0, .ref x1]) (n := 3) (Nat.le_of_ble_eq_true rfl)
    show W p l e rX9_copyFrom s m _ below meth c s.heap [] 0 0 _ (entryFrame m ([.ref x0, .ref x1] : List Value).toArray 3)
    rw [lg_entry_eq]
    generalize (lg_sl ([.ref x0, .ref x1]) ++ List.replicate (3 - (lg_sl ([.ref x0, .ref x1])).length) Slot.unset).toArray = ls at hl ⊢
    have hl : lv_has ls 3 (List.map gq [(0, vR (some x0)), (1, vR (some x1))]) := hl
    exact t_X9_copyFrom_0 X hr _ _ _ _ hf rfl s.heap [] ls hW va_S.rf (lv_has_sub hl (lvsub_of _ _ [0, 1] rfl))
/-! ## TideLots$Sums.valueOn(LTideLots$Shore;LTideLots$Sign;I)I -/
theorem dX9_valueOn_0 : decode cX9_valueOn 0 = .ok (.getstatic 32, 3) := by decide +kernel
theorem dX9_valueOn_3 : decode cX9_valueOn 3 = .ok (.aload_n 1, 1) := by decide +kernel
theorem dX9_valueOn_4 : decode cX9_valueOn 4 = .ok (.invokevirtual 37, 3) := by decide +kernel
theorem dX9_valueOn_7 : decode cX9_valueOn 7 = .ok (.iaload, 1) := by decide +kernel
theorem dX9_valueOn_8 : decode cX9_valueOn 8 = .ok (.tableswitch 141 7 19 #[103, 141, 141, 141, 141, 141, 141, 68, 73, 83, 93, 121, 131], 68) := by decide +kernel
theorem dX9_valueOn_76 : decode cX9_valueOn 76 = .ok (.aload_n 0, 1) := by decide +kernel
theorem dX9_valueOn_77 : decode cX9_valueOn 77 = .ok (.getfield 52, 3) := by decide +kernel
theorem dX9_valueOn_80 : decode cX9_valueOn 80 = .ok (.ireturn, 1) := by decide +kernel
theorem dX9_valueOn_81 : decode cX9_valueOn 81 = .ok (.aload_n 0, 1) := by decide +kernel
theorem dX9_valueOn_82 : decode cX9_valueOn 82 = .ok (.getfield 57, 3) := by decide +kernel
theorem dX9_valueOn_85 : decode cX9_valueOn 85 = .ok (.iload_n 2, 1) := by decide +kernel
theorem dX9_valueOn_86 : decode cX9_valueOn 86 = .ok (.aaload, 1) := by decide +kernel
theorem dX9_valueOn_87 : decode cX9_valueOn 87 = .ok (.getfield 61, 3) := by decide +kernel
theorem dX9_valueOn_90 : decode cX9_valueOn 90 = .ok (.ireturn, 1) := by decide +kernel
theorem dX9_valueOn_91 : decode cX9_valueOn 91 = .ok (.aload_n 0, 1) := by decide +kernel
theorem dX9_valueOn_92 : decode cX9_valueOn 92 = .ok (.getfield 57, 3) := by decide +kernel
theorem dX9_valueOn_95 : decode cX9_valueOn 95 = .ok (.iload_n 2, 1) := by decide +kernel
theorem dX9_valueOn_96 : decode cX9_valueOn 96 = .ok (.aaload, 1) := by decide +kernel
theorem dX9_valueOn_97 : decode cX9_valueOn 97 = .ok (.getfield 66, 3) := by decide +kernel
theorem dX9_valueOn_100 : decode cX9_valueOn 100 = .ok (.ireturn, 1) := by decide +kernel
theorem dX9_valueOn_101 : decode cX9_valueOn 101 = .ok (.aload_n 0, 1) := by decide +kernel
theorem dX9_valueOn_102 : decode cX9_valueOn 102 = .ok (.getfield 57, 3) := by decide +kernel
theorem dX9_valueOn_105 : decode cX9_valueOn 105 = .ok (.iload_n 2, 1) := by decide +kernel
theorem dX9_valueOn_106 : decode cX9_valueOn 106 = .ok (.aaload, 1) := by decide +kernel
theorem dX9_valueOn_107 : decode cX9_valueOn 107 = .ok (.getfield 69, 3) := by decide +kernel
theorem dX9_valueOn_110 : decode cX9_valueOn 110 = .ok (.ireturn, 1) := by decide +kernel
theorem dX9_valueOn_111 : decode cX9_valueOn 111 = .ok (.aload_n 0, 1) := by decide +kernel
theorem dX9_valueOn_112 : decode cX9_valueOn 112 = .ok (.getfield 57, 3) := by decide +kernel
theorem dX9_valueOn_115 : decode cX9_valueOn 115 = .ok (.iload_n 2, 1) := by decide +kernel
theorem dX9_valueOn_116 : decode cX9_valueOn 116 = .ok (.aaload, 1) := by decide +kernel
theorem dX9_valueOn_117 : decode cX9_valueOn 117 = .ok (.getfield 72, 3) := by decide +kernel
theorem dX9_valueOn_120 : decode cX9_valueOn 120 = .ok (.ifCond .eq 7, 3) := by decide +kernel
theorem dX9_valueOn_123 : decode cX9_valueOn 123 = .ok (.iconst 1, 1) := by decide +kernel
theorem dX9_valueOn_124 : decode cX9_valueOn 124 = .ok (.goto 4, 3) := by decide +kernel
theorem dX9_valueOn_127 : decode cX9_valueOn 127 = .ok (.iconst 0, 1) := by decide +kernel
theorem dX9_valueOn_128 : decode cX9_valueOn 128 = .ok (.ireturn, 1) := by decide +kernel
theorem dX9_valueOn_129 : decode cX9_valueOn 129 = .ok (.aload_n 0, 1) := by decide +kernel
theorem dX9_valueOn_130 : decode cX9_valueOn 130 = .ok (.getfield 76, 3) := by decide +kernel
theorem dX9_valueOn_133 : decode cX9_valueOn 133 = .ok (.iload_n 2, 1) := by decide +kernel
theorem dX9_valueOn_134 : decode cX9_valueOn 134 = .ok (.aaload, 1) := by decide +kernel
theorem dX9_valueOn_135 : decode cX9_valueOn 135 = .ok (.invokevirtual 80, 3) := by decide +kernel
theorem dX9_valueOn_138 : decode cX9_valueOn 138 = .ok (.ireturn, 1) := by decide +kernel
theorem dX9_valueOn_139 : decode cX9_valueOn 139 = .ok (.aload_n 0, 1) := by decide +kernel
theorem dX9_valueOn_140 : decode cX9_valueOn 140 = .ok (.getfield 76, 3) := by decide +kernel
theorem dX9_valueOn_143 : decode cX9_valueOn 143 = .ok (.iload_n 2, 1) := by decide +kernel
theorem dX9_valueOn_144 : decode cX9_valueOn 144 = .ok (.aaload, 1) := by decide +kernel
theorem dX9_valueOn_145 : decode cX9_valueOn 145 = .ok (.getfield 85, 3) := by decide +kernel
theorem dX9_valueOn_148 : decode cX9_valueOn 148 = .ok (.ireturn, 1) := by decide +kernel
theorem dX9_valueOn_149 : decode cX9_valueOn 149 = .ok (.iload_n 2, 1) := by decide +kernel
theorem dX9_valueOn_150 : decode cX9_valueOn 150 = .ok (.ireturn, 1) := by decide +kernel
set_option maxRecDepth 20000 in
theorem ggX9_valueOn_Jx29ce0_ordinal_8abf5 : GoodIn wsX9_valueOn wsJx29ce0_ordinal_8abf5 := goodIn_r _ [15, 16] (by decide +kernel) (by decide +kernel)
set_option maxRecDepth 20000 in
theorem gX9_valueOn_Jx29ce0_ordinal_8abf5_u37X8 : GoodIn wsX9_valueOn (va_wsU RX9 37 RX8 "java/lang/Enum" ⟨"TideLots$Sign", "ordinal", "()I"⟩ yJx29ce0_ordinal_8abf5 wsJx29ce0_ordinal_8abf5) := goodIn_app (goodIn_of _ (by decide +kernel)) ggX9_valueOn_Jx29ce0_ordinal_8abf5
set_option maxRecDepth 20000 in
theorem ggX9_valueOn_X3_allFish : GoodIn wsX9_valueOn wsX3_allFish := goodIn_r _ [21, 22, 51, 52, 53, 54] (by decide +kernel) (by decide +kernel)
set_option maxRecDepth 20000 in
theorem gX9_valueOn_X3_allFish : GoodIn wsX9_valueOn (wsV RX9 80 RX3 yX3_allFish wsX3_allFish) := goodIn_app (goodIn_of _ (by decide +kernel)) ggX9_valueOn_X3_allFish
theorem k_X9_valueOn_f32 : Cond.fieldLink RX9 32 "TideLots$1" "$SwitchMap$TideLots$Sign" "[I" ∈ wsX9_valueOn := by decide +kernel
theorem k_X9_valueOn_f57 : Cond.fieldLink RX9 57 "TideLots$Shore" "fishers" "[LTideLots$Fisher;" ∈ wsX9_valueOn := by decide +kernel
theorem i_X9_valueOn_X7 : ∀ w ∈ u_ws RX7 TX7 17, w ∈ wsX9_valueOn := by decide +kernel
theorem k_X9_valueOn_f72 : Cond.fieldLink RX9 72 "TideLots$Fisher" "isCheat" "Z" ∈ wsX9_valueOn := by decide +kernel
theorem i_X9_valueOn_X1 : ∀ w ∈ u_ws RX1 TX1 11, w ∈ wsX9_valueOn := by decide +kernel
theorem k_X9_valueOn_f52 : Cond.fieldLink RX9 52 "TideLots$Shore" "tide" "I" ∈ wsX9_valueOn := by decide +kernel
theorem k_X9_valueOn_f61 : Cond.fieldLink RX9 61 "TideLots$Fisher" "store" "I" ∈ wsX9_valueOn := by decide +kernel
theorem k_X9_valueOn_f66 : Cond.fieldLink RX9 66 "TideLots$Fisher" "latest" "I" ∈ wsX9_valueOn := by decide +kernel
theorem k_X9_valueOn_f69 : Cond.fieldLink RX9 69 "TideLots$Fisher" "mesh" "I" ∈ wsX9_valueOn := by decide +kernel
theorem k_X9_valueOn_f76 : Cond.fieldLink RX9 76 "TideLots$Shore" "grounds" "[LTideLots$Ground;" ∈ wsX9_valueOn := by decide +kernel
theorem k_X9_valueOn_f85 : Cond.fieldLink RX9 85 "TideLots$Ground" "boats" "I" ∈ wsX9_valueOn := by decide +kernel
theorem i_X9_valueOn_X3 : ∀ w ∈ u_ws RX3 TX3 4, w ∈ wsX9_valueOn := by decide +kernel
abbrev rX9_valueOn : Room := { frames := 1, cells := 0, slots := 0, locals := 22 }
noncomputable def b_X9_valueOn_149 (Z : Nat → Nat) (M : gMem) (x2 : Int32) : Option (Int32 × gMem) :=
  some (x2, M)
noncomputable def b_X9_valueOn_128 (Z : Nat → Nat) (M : gMem) (s0 : Int32) : Option (Int32 × gMem) :=
  some (s0, M)
noncomputable def b_X9_valueOn_0 (Z : Nat → Nat) (M : gMem) (x0 : Option Nat) (x1 : Option Nat) (x2 : Int32) : Option (Int32 × gMem) :=
  dr (ordZ Z x1) fun o1 => (if (gSw o1) = (7 : Int32) then dr x0 fun a3 => ck (mT M a3 = 7) <| dr ((mR M a3 7)) fun a5 => ck (mT M a5 = 24) <| ck (inb x2 (mL M a5)) <| dr ((mR M a5 x2.toNatClampNeg)) fun a8 => ck (mT M a8 = 1) <| (if (mI M a8 9) = 0 then b_X9_valueOn_128 Z M ((0 : Int32)) else b_X9_valueOn_128 Z M ((1 : Int32))) else (if (gSw o1) = (8 : Int32) then b_X9_valueOn_149 Z M x2 else (if (gSw o1) = (9 : Int32) then b_X9_valueOn_149 Z M x2 else (if (gSw o1) = (10 : Int32) then b_X9_valueOn_149 Z M x2 else (if (gSw o1) = (11 : Int32) then b_X9_valueOn_149 Z M x2 else (if (gSw o1) = (12 : Int32) then b_X9_valueOn_149 Z M x2 else (if (gSw o1) = (13 : Int32) then b_X9_valueOn_149 Z M x2 else (if (gSw o1) = (14 : Int32) then dr x0 fun a17 => ck (mT M a17 = 7) <| some ((mI M a17 0), M) else (if (gSw o1) = (15 : Int32) then dr x0 fun a20 => ck (mT M a20 = 7) <| dr ((mR M a20 7)) fun a22 => ck (mT M a22 = 24) <| ck (inb x2 (mL M a22)) <| dr ((mR M a22 x2.toNatClampNeg)) fun a25 => ck (mT M a25 = 1) <| some ((mI M a25 4), M) else (if (gSw o1) = (16 : Int32) then dr x0 fun a28 => ck (mT M a28 = 7) <| dr ((mR M a28 7)) fun a30 => ck (mT M a30 = 24) <| ck (inb x2 (mL M a30)) <| dr ((mR M a30 x2.toNatClampNeg)) fun a33 => ck (mT M a33 = 1) <| some ((mI M a33 5), M) else (if (gSw o1) = (17 : Int32) then dr x0 fun a36 => ck (mT M a36 = 7) <| dr ((mR M a36 7)) fun a38 => ck (mT M a38 = 24) <| ck (inb x2 (mL M a38)) <| dr ((mR M a38 x2.toNatClampNeg)) fun a41 => ck (mT M a41 = 1) <| some ((mI M a41 1), M) else (if (gSw o1) = (18 : Int32) then dr x0 fun a44 => ck (mT M a44 = 7) <| dr ((mR M a44 6)) fun a46 => ck (mT M a46 = 23) <| ck (inb x2 (mL M a46)) <| dr ((mR M a46 x2.toNatClampNeg)) fun a50 => ck (mT M a50 = 3) <| bd (f_X3_allFish M a50) fun r49 M49 => some (r49, M49) else (if (gSw o1) = (19 : Int32) then dr x0 fun a53 => ck (mT M a53 = 7) <| dr ((mR M a53 6)) fun a55 => ck (mT M a55 = 23) <| ck (inb x2 (mL M a55)) <| dr ((mR M a55 x2.toNatClampNeg)) fun a58 => ck (mT M a58 = 3) <| some ((mI M a58 1), M) else b_X9_valueOn_149 Z M x2)))))))))))))
noncomputable def f_X9_valueOn (Z : Nat → Nat) (M : gMem) (x0 : Option Nat) (x1 : Option Nat) (x2 : Int32) : Option (Int32 × gMem) :=
  b_X9_valueOn_0 Z M x0 x1 x2
set_option maxHeartbeats 4000000 in
set_option maxRecDepth 100000 in
theorem t_X9_valueOn_149 (X : gX p s m args meth c D cy B (gSt Z B H0) RX9 cX9_valueOn wsX9_valueOn 3) (hr : meth.sig.returnType = (some .int)) {Q : State → Prop} : ∀ (M : gMem) (x2 : Int32) (z : Int32 × gMem), b_X9_valueOn_149 Z M x2 = some z → (fun (r : Int32 × gMem) => Q = gMQ below D cy B H0 args s 0 0 (some (vI r.1)) r.2) z → gGo p l e rX9_valueOn s m args below meth c D cy B H0 3 0 0 Q 149 [(2, vI x2)] [] M := by
  intro M x2 z hf hK
  unfold b_X9_valueOn_149 at hf
  refine g_iload_n X dX9_valueOn_149 rfl rfl ?_
  cases hf
  refine g_eqQ hK ?_
  exact g_iret X hr dX9_valueOn_150
set_option maxHeartbeats 4000000 in
set_option maxRecDepth 100000 in
theorem t_X9_valueOn_128 (X : gX p s m args meth c D cy B (gSt Z B H0) RX9 cX9_valueOn wsX9_valueOn 3) (hr : meth.sig.returnType = (some .int)) {Q : State → Prop} : ∀ (M : gMem) (s0 : Int32) (z : Int32 × gMem), b_X9_valueOn_128 Z M s0 = some z → (fun (r : Int32 × gMem) => Q = gMQ below D cy B H0 args s 0 0 (some (vI r.1)) r.2) z → gGo p l e rX9_valueOn s m args below meth c D cy B H0 3 0 0 Q 128 [] [vI s0] M := by
  intro M s0 z hf hK
  unfold b_X9_valueOn_128 at hf
  cases hf
  refine g_eqQ hK ?_
  exact g_iret X hr dX9_valueOn_128
set_option maxHeartbeats 4000000 in
set_option maxRecDepth 100000 in
theorem t_X9_valueOn_0 (X : gX p s m args meth c D cy B (gSt Z B H0) RX9 cX9_valueOn wsX9_valueOn 3) (hr : meth.sig.returnType = (some .int)) {Q : State → Prop} : ∀ (M : gMem) (x0 : Option Nat) (x1 : Option Nat) (x2 : Int32) (z : Int32 × gMem), b_X9_valueOn_0 Z M x0 x1 x2 = some z → (fun (r : Int32 × gMem) => Q = gMQ below D cy B H0 args s 0 0 (some (vI r.1)) r.2) z → gGo p l e rX9_valueOn s m args below meth c D cy B H0 3 0 0 Q 0 [(0, vR x0), (1, vR x1), (2, vI x2)] [] M := by
  intro M x0 x1 x2 z hf hK
  unfold b_X9_valueOn_0 at hf
  refine g_gets (w := vR (some (Z 46))) X (gSt_SW X) k_X9_valueOn_f32 rfl dX9_valueOn_0 ?_
  refine g_aload_n X dX9_valueOn_3 rfl rfl ?_
  obtain ⟨o1, ho1, hf⟩ := dr_e hf
  refine g_callU (C := RX8) (owner := "java/lang/Enum") (As := []) (st := [vR (some (Z 46))]) (v := some (vI (nI o1))) X (m_ordinal l (ordZ_lt ho1)) (va_cwU 0 X.2.2.1 gX9_valueOn_Jx29ce0_ordinal_8abf5_u37X8 rfl rfl rfl (by decide +kernel) (by decide +kernel) ⟨Nat.le_of_ble_eq_true rfl, Nat.le_of_ble_eq_true rfl⟩) rfl rfl (ordZ_eq ho1) (fun H hW => gO_recv (gSt_O X (ordZ_lt ho1)) hW) (Nat.le_of_ble_eq_true rfl) dX9_valueOn_4 ⟨by decide, by decide⟩ ?_
  refine g_ialdT (w := gSw o1) X (gSt_SWt X) rfl (gord_nn (ordZ_lt ho1)) (gord_lt (ordZ_lt ho1)) (gord_sw (ordZ_lt ho1)) dX9_valueOn_7 ?_
  by_cases hs2 : (gSw o1) = (7 : Int32)
  · have hf := ife_t hs2 hf
    refine g_tabin (tgt := 111) X dX9_valueOn_8 hs2 (by decide) (by decide) rfl (by decide) ?_
    refine g_aload_n X dX9_valueOn_111 rfl rfl ?_
    obtain ⟨a3, ha3, hf⟩ := dr_e hf
    obtain ⟨hT4, hf⟩ := ck_e hf
    refine g_get (ci := 6) (v := vR (mR M a3 7)) 7 X cdX7 i_X9_valueOn_X7 (by decide) k_X9_valueOn_f57 rfl dX9_valueOn_112 ha3 hT4 rfl ?_
    refine g_iload_n X dX9_valueOn_115 rfl rfl ?_
    obtain ⟨a5, ha5, hf⟩ := dr_e hf
    obtain ⟨hT6, hf⟩ := ck_e hf
    obtain ⟨hg7, hf⟩ := ck_e hf
    refine g_aald (t0 := 4) X dX9_valueOn_116 ha5 hT6 (by decide) rfl hg7 ?_
    obtain ⟨a8, ha8, hf⟩ := dr_e hf
    obtain ⟨hT9, hf⟩ := ck_e hf
    refine g_get (ci := 0) (v := vI (mI M a8 9)) 9 X cdX1 i_X9_valueOn_X1 (by decide) k_X9_valueOn_f72 rfl dX9_valueOn_117 ha8 hT9 rfl ?_
    refine g_if_eq (tgt := 127) X dX9_valueOn_120 (by decide) (fun hc => ?_) (fun hc => ?_)
    · have hf := ife_t hc hf
      refine g_iconst (v := (0 : Int32)) X dX9_valueOn_127 (by decide) ?_
      refine g_sub (lvsub_of _ _ [] rfl) ?_
      exact t_X9_valueOn_128 X hr _ _ _ hf hK
    · have hf := ife_f hc hf
      refine g_iconst (v := (1 : Int32)) X dX9_valueOn_123 (by decide) ?_
      refine g_goto (tgt := 128) X dX9_valueOn_124 (by decide) ?_
      refine g_sub (lvsub_of _ _ [] rfl) ?_
      exact t_X9_valueOn_128 X hr _ _ _ hf hK
  · have hf := ife_f hs2 hf
    by_cases hs10 : (gSw o1) = (8 : Int32)
    · have hf := ife_t hs10 hf
      refine g_tabin (tgt := 149) X dX9_valueOn_8 hs10 (by decide) (by decide) rfl (by decide) ?_
      refine g_sub (lvsub_of _ _ [2] rfl) ?_
      exact t_X9_valueOn_149 X hr _ _ _ hf hK
    · have hf := ife_f hs10 hf
      by_cases hs11 : (gSw o1) = (9 : Int32)
      · have hf := ife_t hs11 hf
        refine g_tabin (tgt := 149) X dX9_valueOn_8 hs11 (by decide) (by decide) rfl (by decide) ?_
        refine g_sub (lvsub_of _ _ [2] rfl) ?_
        exact t_X9_valueOn_149 X hr _ _ _ hf hK
      · have hf := ife_f hs11 hf
        by_cases hs12 : (gSw o1) = (10 : Int32)
        · have hf := ife_t hs12 hf
          refine g_tabin (tgt := 149) X dX9_valueOn_8 hs12 (by decide) (by decide) rfl (by decide) ?_
          refine g_sub (lvsub_of _ _ [2] rfl) ?_
          exact t_X9_valueOn_149 X hr _ _ _ hf hK
        · have hf := ife_f hs12 hf
          by_cases hs13 : (gSw o1) = (11 : Int32)
          · have hf := ife_t hs13 hf
            refine g_tabin (tgt := 149) X dX9_valueOn_8 hs13 (by decide) (by decide) rfl (by decide) ?_
            refine g_sub (lvsub_of _ _ [2] rfl) ?_
            exact t_X9_valueOn_149 X hr _ _ _ hf hK
          · have hf := ife_f hs13 hf
            by_cases hs14 : (gSw o1) = (12 : Int32)
            · have hf := ife_t hs14 hf
              refine g_tabin (tgt := 149) X dX9_valueOn_8 hs14 (by decide) (by decide) rfl (by decide) ?_
              refine g_sub (lvsub_of _ _ [2] rfl) ?_
              exact t_X9_valueOn_149 X hr _ _ _ hf hK
            · have hf := ife_f hs14 hf
              by_cases hs15 : (gSw o1) = (13 : Int32)
              · have hf := ife_t hs15 hf
                refine g_tabin (tgt := 149) X dX9_valueOn_8 hs15 (by decide) (by decide) rfl (by decide) ?_
                refine g_sub (lvsub_of _ _ [2] rfl) ?_
                exact t_X9_valueOn_149 X hr _ _ _ hf hK
              · have hf := ife_f hs15 hf
                by_cases hs16 : (gSw o1) = (14 : Int32)
                · have hf := ife_t hs16 hf
                  refine g_tabin (tgt := 76) X dX9_valueOn_8 hs16 (by decide) (by decide) rfl (by decide) ?_
                  refine g_aload_n X dX9_valueOn_76 rfl rfl ?_
                  obtain ⟨a17, ha17, hf⟩ := dr_e hf
                  obtain ⟨hT18, hf⟩ := ck_e hf
                  refine g_get (ci := 6) (v := vI (mI M a17 0)) 0 X cdX7 i_X9_valueOn_X7 (by decide) k_X9_valueOn_f52 rfl dX9_valueOn_77 ha17 hT18 rfl ?_
                  cases hf
                  refine g_eqQ hK ?_
                  exact g_iret X hr dX9_valueOn_80
                · have hf := ife_f hs16 hf
                  by_cases hs19 : (gSw o1) = (15 : Int32)
                  · have hf := ife_t hs19 hf
                    refine g_tabin (tgt := 81) X dX9_valueOn_8 hs19 (by decide) (by decide) rfl (by decide) ?_
                    refine g_aload_n X dX9_valueOn_81 rfl rfl ?_
                    obtain ⟨a20, ha20, hf⟩ := dr_e hf
                    obtain ⟨hT21, hf⟩ := ck_e hf
                    refine g_get (ci := 6) (v := vR (mR M a20 7)) 7 X cdX7 i_X9_valueOn_X7 (by decide) k_X9_valueOn_f57 rfl dX9_valueOn_82 ha20 hT21 rfl ?_
                    refine g_iload_n X dX9_valueOn_85 rfl rfl ?_
                    obtain ⟨a22, ha22, hf⟩ := dr_e hf
                    obtain ⟨hT23, hf⟩ := ck_e hf
                    obtain ⟨hg24, hf⟩ := ck_e hf
                    refine g_aald (t0 := 4) X dX9_valueOn_86 ha22 hT23 (by decide) rfl hg24 ?_
                    obtain ⟨a25, ha25, hf⟩ := dr_e hf
                    obtain ⟨hT26, hf⟩ := ck_e hf
                    refine g_get (ci := 0) (v := vI (mI M a25 4)) 4 X cdX1 i_X9_valueOn_X1 (by decide) k_X9_valueOn_f61 rfl dX9_valueOn_87 ha25 hT26 rfl ?_
                    cases hf
                    refine g_eqQ hK ?_
                    exact g_iret X hr dX9_valueOn_90
                  · have hf := ife_f hs19 hf
                    by_cases hs27 : (gSw o1) = (16 : Int32)
                    · have hf := ife_t hs27 hf
                      refine g_tabin (tgt := 91) X dX9_valueOn_8 hs27 (by decide) (by decide) rfl (by decide) ?_
                      refine g_aload_n X dX9_valueOn_91 rfl rfl ?_
                      obtain ⟨a28, ha28, hf⟩ := dr_e hf
                      obtain ⟨hT29, hf⟩ := ck_e hf
                      refine g_get (ci := 6) (v := vR (mR M a28 7)) 7 X cdX7 i_X9_valueOn_X7 (by decide) k_X9_valueOn_f57 rfl dX9_valueOn_92 ha28 hT29 rfl ?_
                      refine g_iload_n X dX9_valueOn_95 rfl rfl ?_
                      obtain ⟨a30, ha30, hf⟩ := dr_e hf
                      obtain ⟨hT31, hf⟩ := ck_e hf
                      obtain ⟨hg32, hf⟩ := ck_e hf
                      refine g_aald (t0 := 4) X dX9_valueOn_96 ha30 hT31 (by decide) rfl hg32 ?_
                      obtain ⟨a33, ha33, hf⟩ := dr_e hf
                      obtain ⟨hT34, hf⟩ := ck_e hf
                      refine g_get (ci := 0) (v := vI (mI M a33 5)) 5 X cdX1 i_X9_valueOn_X1 (by decide) k_X9_valueOn_f66 rfl dX9_valueOn_97 ha33 hT34 rfl ?_
                      cases hf
                      refine g_eqQ hK ?_
                      exact g_iret X hr dX9_valueOn_100
                    · have hf := ife_f hs27 hf
                      by_cases hs35 : (gSw o1) = (17 : Int32)
                      · have hf := ife_t hs35 hf
                        refine g_tabin (tgt := 101) X dX9_valueOn_8 hs35 (by decide) (by decide) rfl (by decide) ?_
                        refine g_aload_n X dX9_valueOn_101 rfl rfl ?_
                        obtain ⟨a36, ha36, hf⟩ := dr_e hf
                        obtain ⟨hT37, hf⟩ := ck_e hf
                        refine g_get (ci := 6) (v := vR (mR M a36 7)) 7 X cdX7 i_X9_valueOn_X7 (by decide) k_X9_valueOn_f57 rfl dX9_valueOn_102 ha36 hT37 rfl ?_
                        refine g_iload_n X dX9_valueOn_105 rfl rfl ?_
                        obtain ⟨a38, ha38, hf⟩ := dr_e hf
                        obtain ⟨hT39, hf⟩ := ck_e hf
                        obtain ⟨hg40, hf⟩ := ck_e hf
                        refine g_aald (t0 := 4) X dX9_valueOn_106 ha38 hT39 (by decide) rfl hg40 ?_
                        obtain ⟨a41, ha41, hf⟩ := dr_e hf
                        obtain ⟨hT42, hf⟩ := ck_e hf
                        refine g_get (ci := 0) (v := vI (mI M a41 1)) 1 X cdX1 i_X9_valueOn_X1 (by decide) k_X9_valueOn_f69 rfl dX9_valueOn_107 ha41 hT42 rfl ?_
                        cases hf
                        refine g_eqQ hK ?_
                        exact g_iret X hr dX9_valueOn_110
                      · have hf := ife_f hs35 hf
                        by_cases hs43 : (gSw o1) = (18 : Int32)
                        · have hf := ife_t hs43 hf
                          refine g_tabin (tgt := 129) X dX9_valueOn_8 hs43 (by decide) (by decide) rfl (by decide) ?_
                          refine g_aload_n X dX9_valueOn_129 rfl rfl ?_
                          obtain ⟨a44, ha44, hf⟩ := dr_e hf
                          obtain ⟨hT45, hf⟩ := ck_e hf
                          refine g_get (ci := 6) (v := vR (mR M a44 6)) 6 X cdX7 i_X9_valueOn_X7 (by decide) k_X9_valueOn_f76 rfl dX9_valueOn_130 ha44 hT45 rfl ?_
                          refine g_iload_n X dX9_valueOn_133 rfl rfl ?_
                          obtain ⟨a46, ha46, hf⟩ := dr_e hf
                          obtain ⟨hT47, hf⟩ := ck_e hf
                          obtain ⟨hg48, hf⟩ := ck_e hf
                          refine g_aald (t0 := 3) X dX9_valueOn_134 ha46 hT47 (by decide) rfl hg48 ?_
                          obtain ⟨a50, ha50, hf⟩ := dr_e hf
                          obtain ⟨hT51, hf⟩ := ck_e hf
                          obtain ⟨r49, M49, hq49, hf⟩ := bd_e hf
                          refine g_callV (ci := 2) (b := a50) (As := []) (st := []) (v := some (vI r49)) (M1 := M49) X (m_X3_allFish l hq49) (cwV 0 X.2.2.1 gX9_valueOn_X3_allFish rfl rfl rfl (by decide +kernel) ⟨Nat.le_of_ble_eq_true rfl, Nat.le_of_ble_eq_true rfl⟩) rfl rfl ha50 hT51 (by decide) rfl (Nat.le_of_ble_eq_true rfl) dX9_valueOn_135 ⟨by decide, by decide⟩ ?_
                          cases hf
                          refine g_eqQ hK ?_
                          exact g_iret X hr dX9_valueOn_138
                        · have hf := ife_f hs43 hf
                          by_cases hs52 : (gSw o1) = (19 : Int32)
                          · have hf := ife_t hs52 hf
                            refine g_tabin (tgt := 139) X dX9_valueOn_8 hs52 (by decide) (by decide) rfl (by decide) ?_
                            refine g_aload_n X dX9_valueOn_139 rfl rfl ?_
                            obtain ⟨a53, ha53, hf⟩ := dr_e hf
                            obtain ⟨hT54, hf⟩ := ck_e hf
                            refine g_get (ci := 6) (v := vR (mR M a53 6)) 6 X cdX7 i_X9_valueOn_X7 (by decide) k_X9_valueOn_f76 rfl dX9_valueOn_140 ha53 hT54 rfl ?_
                            refine g_iload_n X dX9_valueOn_143 rfl rfl ?_
                            obtain ⟨a55, ha55, hf⟩ := dr_e hf
                            obtain ⟨hT56, hf⟩ := ck_e hf
                            obtain ⟨hg57, hf⟩ := ck_e hf
                            refine g_aald (t0 := 3) X dX9_valueOn_144 ha55 hT56 (by decide) rfl hg57 ?_
                            obtain ⟨a58, ha58, hf⟩ := dr_e hf
                            obtain ⟨hT59, hf⟩ := ck_e hf
                            refine g_get (ci := 2) (v := vI (mI M a58 1)) 1 X cdX3 i_X9_valueOn_X3 (by decide) k_X9_valueOn_f85 rfl dX9_valueOn_145 ha58 hT59 rfl ?_
                            cases hf
                            refine g_eqQ hK ?_
                            exact g_iret X hr dX9_valueOn_148
                          · have hf := ife_f hs52 hf
                            refine g_tabout (tgt := 149) X dX9_valueOn_8 (gtab_out 13 (7) (by decide) (by decide) (fun i hi => match i, hi with | 0, _ => fun e => hs2 (e.trans (by decide)) | 1, _ => fun e => hs10 (e.trans (by decide)) | 2, _ => fun e => hs11 (e.trans (by decide)) | 3, _ => fun e => hs12 (e.trans (by decide)) | 4, _ => fun e => hs13 (e.trans (by decide)) | 5, _ => fun e => hs14 (e.trans (by decide)) | 6, _ => fun e => hs15 (e.trans (by decide)) | 7, _ => fun e => hs16 (e.trans (by decide)) | 8, _ => fun e => hs19 (e.trans (by decide)) | 9, _ => fun e => hs27 (e.trans (by decide)) | 10, _ => fun e => hs35 (e.trans (by decide)) | 11, _ => fun e => hs43 (e.trans (by decide)) | 12, _ => fun e => hs52 (e.trans (by decide)) | i + 13, h => absurd h (by omega))) (by decide) ?_
                            refine g_sub (lvsub_of _ _ [2] rfl) ?_
                            exact t_X9_valueOn_149 X hr _ _ _ hf hK
set_option maxHeartbeats 4000000 in
set_option maxRecDepth 100000 in
theorem m_X9_valueOn (l : Launch) {D : va_G} {cy : Nat → ClassId} {B : Nat} {H0 : Heap} {Z : Nat → Nat} {M M1 : gMem} {x0 : Option Nat} {x1 : Option Nat} {x2 : Int32} {r : Int32} (hf : f_X9_valueOn Z M x0 x1 x2 = some (r, M1)) : Met l yX9_valueOn wsX9_valueOn rX9_valueOn (va_Pc (List.map gv [vR x0, vR x1, vI x2]) (gPre D cy B H0 (gSt Z B H0) M)) (gQ D cy B H0 (some (vI r)) M1) 0 0 (gA B) := by
  refine Met.ofW (cc := cX9_valueOn) (maxL := 3) (ret := (some .int)) (by decide) rfl ?_
  intro p e s m args below meth c s₁ Bd hml hv
  obtain ⟨rfl, hW, hKK, hFs⟩ := hv
  have X : gX p s m _ meth c D cy B (gSt Z B H0) RX9 cX9_valueOn wsX9_valueOn 3 := ⟨Bd.exec, Bd.bytes, atoms_spec (ws := wsX9_valueOn) Bd.pre, findClass_of_methodNamed Bd.named, hml, hKK, by rw [hW.1]; exact hW.2.1, Bd.notSynchronized, hFs⟩
  have hr := Bd.returns
  rcases x0 with _ | x0
  · rcases x1 with _ | x1
    · have hl := lv_entry ([.null, .null, .int x2]) (n := 3) (Nat.le_of_ble_eq_true rfl)
      show W p l e rX9_valueOn s m _ below meth c s.heap [] 0 0 _ (entryFrame m ([.null, .null, .int x2] : List Value).toArray 3)
      rw [lg_entry_eq]
      generalize (lg_sl ([.null, .null, .int x2]) ++ List.replicate (3 - (lg_sl ([.null, .null, .int x2])).length) Slot.unset).toArray = ls at hl ⊢
      have hl : lv_has ls 3 (List.map gq [(0, vR none), (1, vR none), (2, vI x2)]) := hl
      exact t_X9_valueOn_0 X hr _ _ _ _ _ hf rfl s.heap [] ls hW va_S.rf (lv_has_sub hl (lvsub_of _ _ [0, 1, 2] rfl))
    · have hl := lv_entry ([.null, .ref x1, .int x2]) (n := 3) (Nat.le_of_ble_eq_true rfl)
      show W p l e rX9_valueOn s m _ below meth c s.heap [] 0 0 _ (entryFrame m ([.null, .ref x1, .int x2] : List Value).toArray 3)
      rw [lg_entry_eq]
      generalize (lg_sl ([.null, .ref x1, .int x2]) ++ List.replicate (3 - (lg_sl ([.null, .ref x1, .int x2])).length) Slot.unset).toArray = ls at hl ⊢
      have hl : lv_has ls 3 (List.map gq [(0, vR none), (1, vR (some x1)), (2, vI x2)]) := hl
      exact t_X9_valueOn_0 X hr _ _ _ _ _ hf rfl s.heap [] ls hW va_S.rf (lv_has_sub hl (lvsub_of _ _ [0, 1, 2] rfl))
  · rcases x1 with _ | x1
    · have hl := lv_entry ([.ref x0, .null, .int x2]) (n := 3) (Nat.le_of_ble_eq_true rfl)
      show W p l e rX9_valueOn s m _ below meth c s.heap [] 0 0 _ (entryFrame m ([.ref x0, .null, .int x2] : List Value).toArray 3)
      rw [lg_entry_eq]
      generalize (lg_sl ([.ref x0, .null, .int x2]) ++ List.replicate (3 - (lg_sl ([.ref x0, .null, .int x2])).length) Slot.unset).toArray = ls at hl ⊢
      have hl : lv_has ls 3 (List.map gq [(0, vR (some x0)), (1, vR none), (2, vI x2)]) := hl
      exact t_X9_valueOn_0 X hr _ _ _ _ _ hf rfl s.heap [] ls hW va_S.rf (lv_has_sub hl (lvsub_of _ _ [0, 1, 2] rfl))
    · have hl := lv_entry ([.ref x0, .ref x1, .int x2]) (n := 3) (Nat.le_of_ble_eq_true rfl)
      show W p l e rX9_valueOn s m _ below meth c s.heap [] 0 0 _ (entryFrame m ([.ref x0, .ref x1, .int x2] : List Value).toArray 3)
      rw [lg_entry_eq]
      generalize (lg_sl ([.ref x0, .ref x1, .int x2]) ++ List.replicate (3 - (lg_sl ([.ref x0, .ref x1, .int x2])).length) Slot.unset).toArray = ls at hl ⊢
      have hl : lv_has ls 3 (List.map gq [(0, vR (some x0)), (1, vR (some x1)), (2, vI x2)]) := hl
      exact t_X9_valueOn_0 X hr _ _ _ _ _ hf rfl s.heap [] ls hW va_S.rf (lv_has_sub hl (lvsub_of _ _ [0, 1, 2] rfl))
/-! ## TideLots$Sums.combine(LTideLots$Sign;II)I -/
theorem dX9_combine_0 : decode cX9_combine 0 = .ok (.getstatic 32, 3) := by decide +kernel
theorem dX9_combine_3 : decode cX9_combine 3 = .ok (.aload_n 0, 1) := by decide +kernel
theorem dX9_combine_4 : decode cX9_combine 4 = .ok (.invokevirtual 37, 3) := by decide +kernel
theorem dX9_combine_7 : decode cX9_combine 7 = .ok (.iaload, 1) := by decide +kernel
theorem dX9_combine_8 : decode cX9_combine 8 = .ok (.tableswitch 203 8 29 #[148, 159, 170, 181, 192, 203, 203, 203, 203, 203, 203, 203, 108, 203, 128, 134, 203, 104, 112, 116, 140, 144], 104) := by decide +kernel
theorem dX9_combine_112 : decode cX9_combine 112 = .ok (.iload_n 1, 1) := by decide +kernel
theorem dX9_combine_113 : decode cX9_combine 113 = .ok (.iload_n 2, 1) := by decide +kernel
theorem dX9_combine_114 : decode cX9_combine 114 = .ok (.iadd, 1) := by decide +kernel
theorem dX9_combine_115 : decode cX9_combine 115 = .ok (.ireturn, 1) := by decide +kernel
theorem dX9_combine_116 : decode cX9_combine 116 = .ok (.iload_n 1, 1) := by decide +kernel
theorem dX9_combine_117 : decode cX9_combine 117 = .ok (.iload_n 2, 1) := by decide +kernel
theorem dX9_combine_118 : decode cX9_combine 118 = .ok (.isub, 1) := by decide +kernel
theorem dX9_combine_119 : decode cX9_combine 119 = .ok (.ireturn, 1) := by decide +kernel
theorem dX9_combine_120 : decode cX9_combine 120 = .ok (.iload_n 1, 1) := by decide +kernel
theorem dX9_combine_121 : decode cX9_combine 121 = .ok (.iload_n 2, 1) := by decide +kernel
theorem dX9_combine_122 : decode cX9_combine 122 = .ok (.imul, 1) := by decide +kernel
theorem dX9_combine_123 : decode cX9_combine 123 = .ok (.ireturn, 1) := by decide +kernel
theorem dX9_combine_124 : decode cX9_combine 124 = .ok (.iload_n 2, 1) := by decide +kernel
theorem dX9_combine_125 : decode cX9_combine 125 = .ok (.ifCond .ne 7, 3) := by decide +kernel
theorem dX9_combine_128 : decode cX9_combine 128 = .ok (.iconst 0, 1) := by decide +kernel
theorem dX9_combine_129 : decode cX9_combine 129 = .ok (.goto 6, 3) := by decide +kernel
theorem dX9_combine_132 : decode cX9_combine 132 = .ok (.iload_n 1, 1) := by decide +kernel
theorem dX9_combine_133 : decode cX9_combine 133 = .ok (.iload_n 2, 1) := by decide +kernel
theorem dX9_combine_134 : decode cX9_combine 134 = .ok (.idiv, 1) := by decide +kernel
theorem dX9_combine_135 : decode cX9_combine 135 = .ok (.ireturn, 1) := by decide +kernel
theorem dX9_combine_136 : decode cX9_combine 136 = .ok (.iload_n 1, 1) := by decide +kernel
theorem dX9_combine_137 : decode cX9_combine 137 = .ok (.iload_n 2, 1) := by decide +kernel
theorem dX9_combine_138 : decode cX9_combine 138 = .ok (.invokestatic 88, 3) := by decide +kernel
theorem dX9_combine_141 : decode cX9_combine 141 = .ok (.ireturn, 1) := by decide +kernel
theorem dX9_combine_142 : decode cX9_combine 142 = .ok (.iload_n 1, 1) := by decide +kernel
theorem dX9_combine_143 : decode cX9_combine 143 = .ok (.iload_n 2, 1) := by decide +kernel
theorem dX9_combine_144 : decode cX9_combine 144 = .ok (.invokestatic 94, 3) := by decide +kernel
theorem dX9_combine_147 : decode cX9_combine 147 = .ok (.ireturn, 1) := by decide +kernel
theorem dX9_combine_148 : decode cX9_combine 148 = .ok (.iload_n 1, 1) := by decide +kernel
theorem dX9_combine_149 : decode cX9_combine 149 = .ok (.iload_n 2, 1) := by decide +kernel
theorem dX9_combine_150 : decode cX9_combine 150 = .ok (.iand, 1) := by decide +kernel
theorem dX9_combine_151 : decode cX9_combine 151 = .ok (.ireturn, 1) := by decide +kernel
theorem dX9_combine_152 : decode cX9_combine 152 = .ok (.iload_n 1, 1) := by decide +kernel
theorem dX9_combine_153 : decode cX9_combine 153 = .ok (.iload_n 2, 1) := by decide +kernel
theorem dX9_combine_154 : decode cX9_combine 154 = .ok (.ior, 1) := by decide +kernel
theorem dX9_combine_155 : decode cX9_combine 155 = .ok (.ireturn, 1) := by decide +kernel
theorem dX9_combine_156 : decode cX9_combine 156 = .ok (.iload_n 1, 1) := by decide +kernel
theorem dX9_combine_157 : decode cX9_combine 157 = .ok (.iload_n 2, 1) := by decide +kernel
theorem dX9_combine_158 : decode cX9_combine 158 = .ok (.if_icmp .ge 7, 3) := by decide +kernel
theorem dX9_combine_161 : decode cX9_combine 161 = .ok (.iconst 1, 1) := by decide +kernel
theorem dX9_combine_162 : decode cX9_combine 162 = .ok (.goto 4, 3) := by decide +kernel
theorem dX9_combine_165 : decode cX9_combine 165 = .ok (.iconst 0, 1) := by decide +kernel
theorem dX9_combine_166 : decode cX9_combine 166 = .ok (.ireturn, 1) := by decide +kernel
theorem dX9_combine_167 : decode cX9_combine 167 = .ok (.iload_n 1, 1) := by decide +kernel
theorem dX9_combine_168 : decode cX9_combine 168 = .ok (.iload_n 2, 1) := by decide +kernel
theorem dX9_combine_169 : decode cX9_combine 169 = .ok (.if_icmp .le 7, 3) := by decide +kernel
theorem dX9_combine_172 : decode cX9_combine 172 = .ok (.iconst 1, 1) := by decide +kernel
theorem dX9_combine_173 : decode cX9_combine 173 = .ok (.goto 4, 3) := by decide +kernel
theorem dX9_combine_176 : decode cX9_combine 176 = .ok (.iconst 0, 1) := by decide +kernel
theorem dX9_combine_177 : decode cX9_combine 177 = .ok (.ireturn, 1) := by decide +kernel
theorem dX9_combine_178 : decode cX9_combine 178 = .ok (.iload_n 1, 1) := by decide +kernel
theorem dX9_combine_179 : decode cX9_combine 179 = .ok (.iload_n 2, 1) := by decide +kernel
theorem dX9_combine_180 : decode cX9_combine 180 = .ok (.if_icmp .ne 7, 3) := by decide +kernel
theorem dX9_combine_183 : decode cX9_combine 183 = .ok (.iconst 1, 1) := by decide +kernel
theorem dX9_combine_184 : decode cX9_combine 184 = .ok (.goto 4, 3) := by decide +kernel
theorem dX9_combine_187 : decode cX9_combine 187 = .ok (.iconst 0, 1) := by decide +kernel
theorem dX9_combine_188 : decode cX9_combine 188 = .ok (.ireturn, 1) := by decide +kernel
theorem dX9_combine_189 : decode cX9_combine 189 = .ok (.iload_n 1, 1) := by decide +kernel
theorem dX9_combine_190 : decode cX9_combine 190 = .ok (.iload_n 2, 1) := by decide +kernel
theorem dX9_combine_191 : decode cX9_combine 191 = .ok (.if_icmp .gt 7, 3) := by decide +kernel
theorem dX9_combine_194 : decode cX9_combine 194 = .ok (.iconst 1, 1) := by decide +kernel
theorem dX9_combine_195 : decode cX9_combine 195 = .ok (.goto 4, 3) := by decide +kernel
theorem dX9_combine_198 : decode cX9_combine 198 = .ok (.iconst 0, 1) := by decide +kernel
theorem dX9_combine_199 : decode cX9_combine 199 = .ok (.ireturn, 1) := by decide +kernel
theorem dX9_combine_200 : decode cX9_combine 200 = .ok (.iload_n 1, 1) := by decide +kernel
theorem dX9_combine_201 : decode cX9_combine 201 = .ok (.iload_n 2, 1) := by decide +kernel
theorem dX9_combine_202 : decode cX9_combine 202 = .ok (.if_icmp .lt 7, 3) := by decide +kernel
theorem dX9_combine_205 : decode cX9_combine 205 = .ok (.iconst 1, 1) := by decide +kernel
theorem dX9_combine_206 : decode cX9_combine 206 = .ok (.goto 4, 3) := by decide +kernel
theorem dX9_combine_209 : decode cX9_combine 209 = .ok (.iconst 0, 1) := by decide +kernel
theorem dX9_combine_210 : decode cX9_combine 210 = .ok (.ireturn, 1) := by decide +kernel
theorem dX9_combine_211 : decode cX9_combine 211 = .ok (.iconst 0, 1) := by decide +kernel
theorem dX9_combine_212 : decode cX9_combine 212 = .ok (.ireturn, 1) := by decide +kernel
set_option maxRecDepth 20000 in
theorem ggX9_combine_Jx29ce0_ordinal_8abf5 : GoodIn wsX9_combine wsJx29ce0_ordinal_8abf5 := goodIn_r _ [14, 15] (by decide +kernel) (by decide +kernel)
set_option maxRecDepth 20000 in
theorem gX9_combine_Jx29ce0_ordinal_8abf5_u37X8 : GoodIn wsX9_combine (va_wsU RX9 37 RX8 "java/lang/Enum" ⟨"TideLots$Sign", "ordinal", "()I"⟩ yJx29ce0_ordinal_8abf5 wsJx29ce0_ordinal_8abf5) := goodIn_app (goodIn_of _ (by decide +kernel)) ggX9_combine_Jx29ce0_ordinal_8abf5
theorem k_X9_combine_f32 : Cond.fieldLink RX9 32 "TideLots$1" "$SwitchMap$TideLots$Sign" "[I" ∈ wsX9_combine := by decide +kernel
theorem k_X9_combine_m88 : Cond.methodLink RX9 88 Lib.Math.min.name ∈ wsX9_combine := by decide +kernel
theorem k_X9_combine_mmins : Cond.static Lib.Math.min.name ∈ wsX9_combine := by decide +kernel
theorem k_X9_combine_mi : Cond.initialized "java/lang/Math" ∈ wsX9_combine := by decide +kernel
theorem k_X9_combine_mminc : Cond.code Lib.Math.min.name Lib.Math.min.code 2 (some .int) ∈ wsX9_combine := by decide +kernel
theorem k_X9_combine_m94 : Cond.methodLink RX9 94 Lib.Math.max.name ∈ wsX9_combine := by decide +kernel
theorem k_X9_combine_mmaxs : Cond.static Lib.Math.max.name ∈ wsX9_combine := by decide +kernel
theorem k_X9_combine_mmaxc : Cond.code Lib.Math.max.name Lib.Math.max.code 2 (some .int) ∈ wsX9_combine := by decide +kernel
abbrev rX9_combine : Room := { frames := 1, cells := 0, slots := 0, locals := 20 }
noncomputable def b_X9_combine_211 (Z : Nat → Nat) (M : gMem)  : Option (Int32 × gMem) :=
  some ((0 : Int32), M)
noncomputable def b_X9_combine_210 (Z : Nat → Nat) (M : gMem) (s0 : Int32) : Option (Int32 × gMem) :=
  some (s0, M)
noncomputable def b_X9_combine_199 (Z : Nat → Nat) (M : gMem) (s0 : Int32) : Option (Int32 × gMem) :=
  some (s0, M)
noncomputable def b_X9_combine_188 (Z : Nat → Nat) (M : gMem) (s0 : Int32) : Option (Int32 × gMem) :=
  some (s0, M)
noncomputable def b_X9_combine_177 (Z : Nat → Nat) (M : gMem) (s0 : Int32) : Option (Int32 × gMem) :=
  some (s0, M)
noncomputable def b_X9_combine_166 (Z : Nat → Nat) (M : gMem) (s0 : Int32) : Option (Int32 × gMem) :=
  some (s0, M)
noncomputable def b_X9_combine_135 (Z : Nat → Nat) (M : gMem) (s0 : Int32) : Option (Int32 × gMem) :=
  some (s0, M)
noncomputable def b_X9_combine_0 (Z : Nat → Nat) (M : gMem) (x0 : Option Nat) (x1 : Int32) (x2 : Int32) : Option (Int32 × gMem) :=
  dr (ordZ Z x0) fun o1 => (if (gSw o1) = (8 : Int32) then (if x2 ≤ x1 then b_X9_combine_166 Z M ((0 : Int32)) else b_X9_combine_166 Z M ((1 : Int32))) else (if (gSw o1) = (9 : Int32) then (if x1 ≤ x2 then b_X9_combine_177 Z M ((0 : Int32)) else b_X9_combine_177 Z M ((1 : Int32))) else (if (gSw o1) = (10 : Int32) then (if x1 = x2 then b_X9_combine_188 Z M ((1 : Int32)) else b_X9_combine_188 Z M ((0 : Int32))) else (if (gSw o1) = (11 : Int32) then (if x2 < x1 then b_X9_combine_199 Z M ((0 : Int32)) else b_X9_combine_199 Z M ((1 : Int32))) else (if (gSw o1) = (12 : Int32) then (if x1 < x2 then b_X9_combine_210 Z M ((0 : Int32)) else b_X9_combine_210 Z M ((1 : Int32))) else (if (gSw o1) = (13 : Int32) then b_X9_combine_211 Z M  else (if (gSw o1) = (14 : Int32) then b_X9_combine_211 Z M  else (if (gSw o1) = (15 : Int32) then b_X9_combine_211 Z M  else (if (gSw o1) = (16 : Int32) then b_X9_combine_211 Z M  else (if (gSw o1) = (17 : Int32) then b_X9_combine_211 Z M  else (if (gSw o1) = (18 : Int32) then b_X9_combine_211 Z M  else (if (gSw o1) = (19 : Int32) then b_X9_combine_211 Z M  else (if (gSw o1) = (20 : Int32) then some ((x1 - x2), M) else (if (gSw o1) = (21 : Int32) then b_X9_combine_211 Z M  else (if (gSw o1) = (22 : Int32) then some ((imin x1 x2), M) else (if (gSw o1) = (23 : Int32) then some ((imax x1 x2), M) else (if (gSw o1) = (24 : Int32) then b_X9_combine_211 Z M  else (if (gSw o1) = (25 : Int32) then some ((x1 + x2), M) else (if (gSw o1) = (26 : Int32) then some ((x1 * x2), M) else (if (gSw o1) = (27 : Int32) then (if x2 = 0 then b_X9_combine_135 Z M ((0 : Int32)) else ck (¬ x2 = 0) <| b_X9_combine_135 Z M ((x1 / x2))) else (if (gSw o1) = (28 : Int32) then some ((x1 &&& x2), M) else (if (gSw o1) = (29 : Int32) then some ((x1 ||| x2), M) else b_X9_combine_211 Z M ))))))))))))))))))))))
noncomputable def f_X9_combine (Z : Nat → Nat) (M : gMem) (x0 : Option Nat) (x1 : Int32) (x2 : Int32) : Option (Int32 × gMem) :=
  b_X9_combine_0 Z M x0 x1 x2
set_option maxHeartbeats 4000000 in
set_option maxRecDepth 100000 in
theorem t_X9_combine_211 (X : gX p s m args meth c D cy B (gSt Z B H0) RX9 cX9_combine wsX9_combine 3) (hr : meth.sig.returnType = (some .int)) {Q : State → Prop} : ∀ (M : gMem)  (z : Int32 × gMem), b_X9_combine_211 Z M  = some z → (fun (r : Int32 × gMem) => Q = gMQ below D cy B H0 args s 0 0 (some (vI r.1)) r.2) z → gGo p l e rX9_combine s m args below meth c D cy B H0 3 0 0 Q 211 [] [] M := by
  intro M  z hf hK
  unfold b_X9_combine_211 at hf
  refine g_iconst (v := (0 : Int32)) X dX9_combine_211 (by decide) ?_
  cases hf
  refine g_eqQ hK ?_
  exact g_iret X hr dX9_combine_212
set_option maxHeartbeats 4000000 in
set_option maxRecDepth 100000 in
theorem t_X9_combine_210 (X : gX p s m args meth c D cy B (gSt Z B H0) RX9 cX9_combine wsX9_combine 3) (hr : meth.sig.returnType = (some .int)) {Q : State → Prop} : ∀ (M : gMem) (s0 : Int32) (z : Int32 × gMem), b_X9_combine_210 Z M s0 = some z → (fun (r : Int32 × gMem) => Q = gMQ below D cy B H0 args s 0 0 (some (vI r.1)) r.2) z → gGo p l e rX9_combine s m args below meth c D cy B H0 3 0 0 Q 210 [] [vI s0] M := by
  intro M s0 z hf hK
  unfold b_X9_combine_210 at hf
  cases hf
  refine g_eqQ hK ?_
  exact g_iret X hr dX9_combine_210
set_option maxHeartbeats 4000000 in
set_option maxRecDepth 100000 in
theorem t_X9_combine_199 (X : gX p s m args meth c D cy B (gSt Z B H0) RX9 cX9_combine wsX9_combine 3) (hr : meth.sig.returnType = (some .int)) {Q : State → Prop} : ∀ (M : gMem) (s0 : Int32) (z : Int32 × gMem), b_X9_combine_199 Z M s0 = some z → (fun (r : Int32 × gMem) => Q = gMQ below D cy B H0 args s 0 0 (some (vI r.1)) r.2) z → gGo p l e rX9_combine s m args below meth c D cy B H0 3 0 0 Q 199 [] [vI s0] M := by
  intro M s0 z hf hK
  unfold b_X9_combine_199 at hf
  cases hf
  refine g_eqQ hK ?_
  exact g_iret X hr dX9_combine_199
set_option maxHeartbeats 4000000 in
set_option maxRecDepth 100000 in
theorem t_X9_combine_188 (X : gX p s m args meth c D cy B (gSt Z B H0) RX9 cX9_combine wsX9_combine 3) (hr : meth.sig.returnType = (some .int)) {Q : State → Prop} : ∀ (M : gMem) (s0 : Int32) (z : Int32 × gMem), b_X9_combine_188 Z M s0 = some z → (fun (r : Int32 × gMem) => Q = gMQ below D cy B H0 args s 0 0 (some (vI r.1)) r.2) z → gGo p l e rX9_combine s m args below meth c D cy B H0 3 0 0 Q 188 [] [vI s0] M := by
  intro M s0 z hf hK
  unfold b_X9_combine_188 at hf
  cases hf
  refine g_eqQ hK ?_
  exact g_iret X hr dX9_combine_188
set_option maxHeartbeats 4000000 in
set_option maxRecDepth 100000 in
theorem t_X9_combine_177 (X : gX p s m args meth c D cy B (gSt Z B H0) RX9 cX9_combine wsX9_combine 3) (hr : meth.sig.returnType = (some .int)) {Q : State → Prop} : ∀ (M : gMem) (s0 : Int32) (z : Int32 × gMem), b_X9_combine_177 Z M s0 = some z → (fun (r : Int32 × gMem) => Q = gMQ below D cy B H0 args s 0 0 (some (vI r.1)) r.2) z → gGo p l e rX9_combine s m args below meth c D cy B H0 3 0 0 Q 177 [] [vI s0] M := by
  intro M s0 z hf hK
  unfold b_X9_combine_177 at hf
  cases hf
  refine g_eqQ hK ?_
  exact g_iret X hr dX9_combine_177
set_option maxHeartbeats 4000000 in
set_option maxRecDepth 100000 in
theorem t_X9_combine_166 (X : gX p s m args meth c D cy B (gSt Z B H0) RX9 cX9_combine wsX9_combine 3) (hr : meth.sig.returnType = (some .int)) {Q : State → Prop} : ∀ (M : gMem) (s0 : Int32) (z : Int32 × gMem), b_X9_combine_166 Z M s0 = some z → (fun (r : Int32 × gMem) => Q = gMQ below D cy B H0 args s 0 0 (some (vI r.1)) r.2) z → gGo p l e rX9_combine s m args below meth c D cy B H0 3 0 0 Q 166 [] [vI s0] M := by
  intro M s0 z hf hK
  unfold b_X9_combine_166 at hf
  cases hf
  refine g_eqQ hK ?_
  exact g_iret X hr dX9_combine_166
set_option maxHeartbeats 4000000 in
set_option maxRecDepth 100000 in
theorem t_X9_combine_135 (X : gX p s m args meth c D cy B (gSt Z B H0) RX9 cX9_combine wsX9_combine 3) (hr : meth.sig.returnType = (some .int)) {Q : State → Prop} : ∀ (M : gMem) (s0 : Int32) (z : Int32 × gMem), b_X9_combine_135 Z M s0 = some z → (fun (r : Int32 × gMem) => Q = gMQ below D cy B H0 args s 0 0 (some (vI r.1)) r.2) z → gGo p l e rX9_combine s m args below meth c D cy B H0 3 0 0 Q 135 [] [vI s0] M := by
  intro M s0 z hf hK
  unfold b_X9_combine_135 at hf
  cases hf
  refine g_eqQ hK ?_
  exact g_iret X hr dX9_combine_135
set_option maxHeartbeats 4000000 in
set_option maxRecDepth 100000 in
theorem t_X9_combine_0 (X : gX p s m args meth c D cy B (gSt Z B H0) RX9 cX9_combine wsX9_combine 3) (hr : meth.sig.returnType = (some .int)) {Q : State → Prop} : ∀ (M : gMem) (x0 : Option Nat) (x1 : Int32) (x2 : Int32) (z : Int32 × gMem), b_X9_combine_0 Z M x0 x1 x2 = some z → (fun (r : Int32 × gMem) => Q = gMQ below D cy B H0 args s 0 0 (some (vI r.1)) r.2) z → gGo p l e rX9_combine s m args below meth c D cy B H0 3 0 0 Q 0 [(0, vR x0), (1, vI x1), (2, vI x2)] [] M := by
  intro M x0 x1 x2 z hf hK
  unfold b_X9_combine_0 at hf
  refine g_gets (w := vR (some (Z 46))) X (gSt_SW X) k_X9_combine_f32 rfl dX9_combine_0 ?_
  refine g_aload_n X dX9_combine_3 rfl rfl ?_
  obtain ⟨o1, ho1, hf⟩ := dr_e hf
  refine g_callU (C := RX8) (owner := "java/lang/Enum") (As := []) (st := [vR (some (Z 46))]) (v := some (vI (nI o1))) X (m_ordinal l (ordZ_lt ho1)) (va_cwU 0 X.2.2.1 gX9_combine_Jx29ce0_ordinal_8abf5_u37X8 rfl rfl rfl (by decide +kernel) (by decide +kernel) ⟨Nat.le_of_ble_eq_true rfl, Nat.le_of_ble_eq_true rfl⟩) rfl rfl (ordZ_eq ho1) (fun H hW => gO_recv (gSt_O X (ordZ_lt ho1)) hW) (Nat.le_of_ble_eq_true rfl) dX9_combine_4 ⟨by decide, by decide⟩ ?_
  refine g_ialdT (w := gSw o1) X (gSt_SWt X) rfl (gord_nn (ordZ_lt ho1)) (gord_lt (ordZ_lt ho1)) (gord_sw (ordZ_lt ho1)) dX9_combine_7 ?_
  by_cases hs2 : (gSw o1) = (8 : Int32)
  · have hf := ife_t hs2 hf
    refine g_tabin (tgt := 156) X dX9_combine_8 hs2 (by decide) (by decide) rfl (by decide) ?_
    refine g_iload_n X dX9_combine_156 rfl rfl ?_
    refine g_iload_n X dX9_combine_157 rfl rfl ?_
    refine g_icmp_ge (tgt := 165) X dX9_combine_158 (by decide) (fun hc => ?_) (fun hc => ?_)
    · have hf := ife_t hc hf
      refine g_iconst (v := (0 : Int32)) X dX9_combine_165 (by decide) ?_
      refine g_sub (lvsub_of _ _ [] rfl) ?_
      exact t_X9_combine_166 X hr _ _ _ hf hK
    · have hf := ife_f hc hf
      refine g_iconst (v := (1 : Int32)) X dX9_combine_161 (by decide) ?_
      refine g_goto (tgt := 166) X dX9_combine_162 (by decide) ?_
      refine g_sub (lvsub_of _ _ [] rfl) ?_
      exact t_X9_combine_166 X hr _ _ _ hf hK
  · have hf := ife_f hs2 hf
    by_cases hs3 : (gSw o1) = (9 : Int32)
    · have hf := ife_t hs3 hf
      refine g_tabin (tgt := 167) X dX9_combine_8 hs3 (by decide) (by decide) rfl (by decide) ?_
      refine g_iload_n X dX9_combine_167 rfl rfl ?_
      refine g_iload_n X dX9_combine_168 rfl rfl ?_
      refine g_icmp_le (tgt := 176) X dX9_combine_169 (by decide) (fun hc => ?_) (fun hc => ?_)
      · have hf := ife_t hc hf
        refine g_iconst (v := (0 : Int32)) X dX9_combine_176 (by decide) ?_
        refine g_sub (lvsub_of _ _ [] rfl) ?_
        exact t_X9_combine_177 X hr _ _ _ hf hK
      · have hf := ife_f hc hf
        refine g_iconst (v := (1 : Int32)) X dX9_combine_172 (by decide) ?_
        refine g_goto (tgt := 177) X dX9_combine_173 (by decide) ?_
        refine g_sub (lvsub_of _ _ [] rfl) ?_
        exact t_X9_combine_177 X hr _ _ _ hf hK
    · have hf := ife_f hs3 hf
      by_cases hs4 : (gSw o1) = (10 : Int32)
      · have hf := ife_t hs4 hf
        refine g_tabin (tgt := 178) X dX9_combine_8 hs4 (by decide) (by decide) rfl (by decide) ?_
        refine g_iload_n X dX9_combine_178 rfl rfl ?_
        refine g_iload_n X dX9_combine_179 rfl rfl ?_
        refine g_icmp_ne (tgt := 187) X dX9_combine_180 (by decide) (fun hc => ?_) (fun hc => ?_)
        · have hf := ife_f hc hf
          refine g_iconst (v := (0 : Int32)) X dX9_combine_187 (by decide) ?_
          refine g_sub (lvsub_of _ _ [] rfl) ?_
          exact t_X9_combine_188 X hr _ _ _ hf hK
        · have hf := ife_t hc hf
          refine g_iconst (v := (1 : Int32)) X dX9_combine_183 (by decide) ?_
          refine g_goto (tgt := 188) X dX9_combine_184 (by decide) ?_
          refine g_sub (lvsub_of _ _ [] rfl) ?_
          exact t_X9_combine_188 X hr _ _ _ hf hK
      · have hf := ife_f hs4 hf
        by_cases hs5 : (gSw o1) = (11 : Int32)
        · have hf := ife_t hs5 hf
          refine g_tabin (tgt := 189) X dX9_combine_8 hs5 (by decide) (by decide) rfl (by decide) ?_
          refine g_iload_n X dX9_combine_189 rfl rfl ?_
          refine g_iload_n X dX9_combine_190 rfl rfl ?_
          refine g_icmp_gt (tgt := 198) X dX9_combine_191 (by decide) (fun hc => ?_) (fun hc => ?_)
          · have hf := ife_t hc hf
            refine g_iconst (v := (0 : Int32)) X dX9_combine_198 (by decide) ?_
            refine g_sub (lvsub_of _ _ [] rfl) ?_
            exact t_X9_combine_199 X hr _ _ _ hf hK
          · have hf := ife_f hc hf
            refine g_iconst (v := (1 : Int32)) X dX9_combine_194 (by decide) ?_
            refine g_goto (tgt := 199) X dX9_combine_195 (by decide) ?_
            refine g_sub (lvsub_of _ _ [] rfl) ?_
            exact t_X9_combine_199 X hr _ _ _ hf hK
        · have hf := ife_f hs5 hf
          by_cases hs6 : (gSw o1) = (12 : Int32)
          · have hf := ife_t hs6 hf
            refine g_tabin (tgt := 200) X dX9_combine_8 hs6 (by decide) (by decide) rfl (by decide) ?_
            refine g_iload_n X dX9_combine_200 rfl rfl ?_
            refine g_iload_n X dX9_combine_201 rfl rfl ?_
            refine g_icmp_lt (tgt := 209) X dX9_combine_202 (by decide) (fun hc => ?_) (fun hc => ?_)
            · have hf := ife_t hc hf
              refine g_iconst (v := (0 : Int32)) X dX9_combine_209 (by decide) ?_
              refine g_sub (lvsub_of _ _ [] rfl) ?_
              exact t_X9_combine_210 X hr _ _ _ hf hK
            · have hf := ife_f hc hf
              refine g_iconst (v := (1 : Int32)) X dX9_combine_205 (by decide) ?_
              refine g_goto (tgt := 210) X dX9_combine_206 (by decide) ?_
              refine g_sub (lvsub_of _ _ [] rfl) ?_
              exact t_X9_combine_210 X hr _ _ _ hf hK
          · have hf := ife_f hs6 hf
            by_cases hs7 : (gSw o1) = (13 : Int32)
            · have hf := ife_t hs7 hf
              refine g_tabin (tgt := 211) X dX9_combine_8 hs7 (by decide) (by decide) rfl (by decide) ?_
              refine g_sub (lvsub_of _ _ [] rfl) ?_
              exact t_X9_combine_211 X hr _  _ hf hK
            · have hf := ife_f hs7 hf
              by_cases hs8 : (gSw o1) = (14 : Int32)
              · have hf := ife_t hs8 hf
                refine g_tabin (tgt := 211) X dX9_combine_8 hs8 (by decide) (by decide) rfl (by decide) ?_
                refine g_sub (lvsub_of _ _ [] rfl) ?_
                exact t_X9_combine_211 X hr _  _ hf hK
              · have hf := ife_f hs8 hf
                by_cases hs9 : (gSw o1) = (15 : Int32)
                · have hf := ife_t hs9 hf
                  refine g_tabin (tgt := 211) X dX9_combine_8 hs9 (by decide) (by decide) rfl (by decide) ?_
                  refine g_sub (lvsub_of _ _ [] rfl) ?_
                  exact t_X9_combine_211 X hr _  _ hf hK
                · have hf := ife_f hs9 hf
                  by_cases hs10 : (gSw o1) = (16 : Int32)
                  · have hf := ife_t hs10 hf
                    refine g_tabin (tgt := 211) X dX9_combine_8 hs10 (by decide) (by decide) rfl (by decide) ?_
                    refine g_sub (lvsub_of _ _ [] rfl) ?_
                    exact t_X9_combine_211 X hr _  _ hf hK
                  · have hf := ife_f hs10 hf
                    by_cases hs11 : (gSw o1) = (17 : Int32)
                    · have hf := ife_t hs11 hf
                      refine g_tabin (tgt := 211) X dX9_combine_8 hs11 (by decide) (by decide) rfl (by decide) ?_
                      refine g_sub (lvsub_of _ _ [] rfl) ?_
                      exact t_X9_combine_211 X hr _  _ hf hK
                    · have hf := ife_f hs11 hf
                      by_cases hs12 : (gSw o1) = (18 : Int32)
                      · have hf := ife_t hs12 hf
                        refine g_tabin (tgt := 211) X dX9_combine_8 hs12 (by decide) (by decide) rfl (by decide) ?_
                        refine g_sub (lvsub_of _ _ [] rfl) ?_
                        exact t_X9_combine_211 X hr _  _ hf hK
                      · have hf := ife_f hs12 hf
                        by_cases hs13 : (gSw o1) = (19 : Int32)
                        · have hf := ife_t hs13 hf
                          refine g_tabin (tgt := 211) X dX9_combine_8 hs13 (by decide) (by decide) rfl (by decide) ?_
                          refine g_sub (lvsub_of _ _ [] rfl) ?_
                          exact t_X9_combine_211 X hr _  _ hf hK
                        · have hf := ife_f hs13 hf
                          by_cases hs14 : (gSw o1) = (20 : Int32)
                          · have hf := ife_t hs14 hf
                            refine g_tabin (tgt := 116) X dX9_combine_8 hs14 (by decide) (by decide) rfl (by decide) ?_
                            refine g_iload_n X dX9_combine_116 rfl rfl ?_
                            refine g_iload_n X dX9_combine_117 rfl rfl ?_
                            refine g_isub X dX9_combine_118 ?_
                            cases hf
                            refine g_eqQ hK ?_
                            exact g_iret X hr dX9_combine_119
                          · have hf := ife_f hs14 hf
                            by_cases hs15 : (gSw o1) = (21 : Int32)
                            · have hf := ife_t hs15 hf
                              refine g_tabin (tgt := 211) X dX9_combine_8 hs15 (by decide) (by decide) rfl (by decide) ?_
                              refine g_sub (lvsub_of _ _ [] rfl) ?_
                              exact t_X9_combine_211 X hr _  _ hf hK
                            · have hf := ife_f hs15 hf
                              by_cases hs16 : (gSw o1) = (22 : Int32)
                              · have hf := ife_t hs16 hf
                                refine g_tabin (tgt := 136) X dX9_combine_8 hs16 (by decide) (by decide) rfl (by decide) ?_
                                refine g_iload_n X dX9_combine_136 rfl rfl ?_
                                refine g_iload_n X dX9_combine_137 rfl rfl ?_
                                refine g_min X k_X9_combine_m88 k_X9_combine_mmins k_X9_combine_mi k_X9_combine_mminc (Nat.le_of_ble_eq_true rfl) (Nat.le_of_ble_eq_true rfl) ⟨by decide, by decide⟩ dX9_combine_138 ?_
                                cases hf
                                refine g_eqQ hK ?_
                                exact g_iret X hr dX9_combine_141
                              · have hf := ife_f hs16 hf
                                by_cases hs17 : (gSw o1) = (23 : Int32)
                                · have hf := ife_t hs17 hf
                                  refine g_tabin (tgt := 142) X dX9_combine_8 hs17 (by decide) (by decide) rfl (by decide) ?_
                                  refine g_iload_n X dX9_combine_142 rfl rfl ?_
                                  refine g_iload_n X dX9_combine_143 rfl rfl ?_
                                  refine g_max X k_X9_combine_m94 k_X9_combine_mmaxs k_X9_combine_mi k_X9_combine_mmaxc (Nat.le_of_ble_eq_true rfl) (Nat.le_of_ble_eq_true rfl) ⟨by decide, by decide⟩ dX9_combine_144 ?_
                                  cases hf
                                  refine g_eqQ hK ?_
                                  exact g_iret X hr dX9_combine_147
                                · have hf := ife_f hs17 hf
                                  by_cases hs18 : (gSw o1) = (24 : Int32)
                                  · have hf := ife_t hs18 hf
                                    refine g_tabin (tgt := 211) X dX9_combine_8 hs18 (by decide) (by decide) rfl (by decide) ?_
                                    refine g_sub (lvsub_of _ _ [] rfl) ?_
                                    exact t_X9_combine_211 X hr _  _ hf hK
                                  · have hf := ife_f hs18 hf
                                    by_cases hs19 : (gSw o1) = (25 : Int32)
                                    · have hf := ife_t hs19 hf
                                      refine g_tabin (tgt := 112) X dX9_combine_8 hs19 (by decide) (by decide) rfl (by decide) ?_
                                      refine g_iload_n X dX9_combine_112 rfl rfl ?_
                                      refine g_iload_n X dX9_combine_113 rfl rfl ?_
                                      refine g_iadd X dX9_combine_114 ?_
                                      cases hf
                                      refine g_eqQ hK ?_
                                      exact g_iret X hr dX9_combine_115
                                    · have hf := ife_f hs19 hf
                                      by_cases hs20 : (gSw o1) = (26 : Int32)
                                      · have hf := ife_t hs20 hf
                                        refine g_tabin (tgt := 120) X dX9_combine_8 hs20 (by decide) (by decide) rfl (by decide) ?_
                                        refine g_iload_n X dX9_combine_120 rfl rfl ?_
                                        refine g_iload_n X dX9_combine_121 rfl rfl ?_
                                        refine g_imul X dX9_combine_122 ?_
                                        cases hf
                                        refine g_eqQ hK ?_
                                        exact g_iret X hr dX9_combine_123
                                      · have hf := ife_f hs20 hf
                                        by_cases hs21 : (gSw o1) = (27 : Int32)
                                        · have hf := ife_t hs21 hf
                                          refine g_tabin (tgt := 124) X dX9_combine_8 hs21 (by decide) (by decide) rfl (by decide) ?_
                                          refine g_iload_n X dX9_combine_124 rfl rfl ?_
                                          refine g_if_ne (tgt := 132) X dX9_combine_125 (by decide) (fun hc => ?_) (fun hc => ?_)
                                          · have hf := ife_f hc hf
                                            refine g_iload_n X dX9_combine_132 rfl rfl ?_
                                            refine g_iload_n X dX9_combine_133 rfl rfl ?_
                                            obtain ⟨hg22, hf⟩ := ck_e hf
                                            refine g_idiv X dX9_combine_134 hg22 ?_
                                            refine g_sub (lvsub_of _ _ [] rfl) ?_
                                            exact t_X9_combine_135 X hr _ _ _ hf hK
                                          · have hf := ife_t hc hf
                                            refine g_iconst (v := (0 : Int32)) X dX9_combine_128 (by decide) ?_
                                            refine g_goto (tgt := 135) X dX9_combine_129 (by decide) ?_
                                            refine g_sub (lvsub_of _ _ [] rfl) ?_
                                            exact t_X9_combine_135 X hr _ _ _ hf hK
                                        · have hf := ife_f hs21 hf
                                          by_cases hs23 : (gSw o1) = (28 : Int32)
                                          · have hf := ife_t hs23 hf
                                            refine g_tabin (tgt := 148) X dX9_combine_8 hs23 (by decide) (by decide) rfl (by decide) ?_
                                            refine g_iload_n X dX9_combine_148 rfl rfl ?_
                                            refine g_iload_n X dX9_combine_149 rfl rfl ?_
                                            refine g_iand X dX9_combine_150 ?_
                                            cases hf
                                            refine g_eqQ hK ?_
                                            exact g_iret X hr dX9_combine_151
                                          · have hf := ife_f hs23 hf
                                            by_cases hs24 : (gSw o1) = (29 : Int32)
                                            · have hf := ife_t hs24 hf
                                              refine g_tabin (tgt := 152) X dX9_combine_8 hs24 (by decide) (by decide) rfl (by decide) ?_
                                              refine g_iload_n X dX9_combine_152 rfl rfl ?_
                                              refine g_iload_n X dX9_combine_153 rfl rfl ?_
                                              refine g_ior X dX9_combine_154 ?_
                                              cases hf
                                              refine g_eqQ hK ?_
                                              exact g_iret X hr dX9_combine_155
                                            · have hf := ife_f hs24 hf
                                              refine g_tabout (tgt := 211) X dX9_combine_8 (gtab_out 22 (8) (by decide) (by decide) (fun i hi => match i, hi with | 0, _ => fun e => hs2 (e.trans (by decide)) | 1, _ => fun e => hs3 (e.trans (by decide)) | 2, _ => fun e => hs4 (e.trans (by decide)) | 3, _ => fun e => hs5 (e.trans (by decide)) | 4, _ => fun e => hs6 (e.trans (by decide)) | 5, _ => fun e => hs7 (e.trans (by decide)) | 6, _ => fun e => hs8 (e.trans (by decide)) | 7, _ => fun e => hs9 (e.trans (by decide)) | 8, _ => fun e => hs10 (e.trans (by decide)) | 9, _ => fun e => hs11 (e.trans (by decide)) | 10, _ => fun e => hs12 (e.trans (by decide)) | 11, _ => fun e => hs13 (e.trans (by decide)) | 12, _ => fun e => hs14 (e.trans (by decide)) | 13, _ => fun e => hs15 (e.trans (by decide)) | 14, _ => fun e => hs16 (e.trans (by decide)) | 15, _ => fun e => hs17 (e.trans (by decide)) | 16, _ => fun e => hs18 (e.trans (by decide)) | 17, _ => fun e => hs19 (e.trans (by decide)) | 18, _ => fun e => hs20 (e.trans (by decide)) | 19, _ => fun e => hs21 (e.trans (by decide)) | 20, _ => fun e => hs23 (e.trans (by decide)) | 21, _ => fun e => hs24 (e.trans (by decide)) | i + 22, h => absurd h (by omega))) (by decide) ?_
                                              refine g_sub (lvsub_of _ _ [] rfl) ?_
                                              exact t_X9_combine_211 X hr _  _ hf hK
set_option maxHeartbeats 4000000 in
set_option maxRecDepth 100000 in
theorem m_X9_combine (l : Launch) {D : va_G} {cy : Nat → ClassId} {B : Nat} {H0 : Heap} {Z : Nat → Nat} {M M1 : gMem} {x0 : Option Nat} {x1 : Int32} {x2 : Int32} {r : Int32} (hf : f_X9_combine Z M x0 x1 x2 = some (r, M1)) : Met l yX9_combine wsX9_combine rX9_combine (va_Pc (List.map gv [vR x0, vI x1, vI x2]) (gPre D cy B H0 (gSt Z B H0) M)) (gQ D cy B H0 (some (vI r)) M1) 0 0 (gA B) := by
  refine Met.ofW (cc := cX9_combine) (maxL := 3) (ret := (some .int)) (by decide) rfl ?_
  intro p e s m args below meth c s₁ Bd hml hv
  obtain ⟨rfl, hW, hKK, hFs⟩ := hv
  have X : gX p s m _ meth c D cy B (gSt Z B H0) RX9 cX9_combine wsX9_combine 3 := ⟨Bd.exec, Bd.bytes, atoms_spec (ws := wsX9_combine) Bd.pre, findClass_of_methodNamed Bd.named, hml, hKK, by rw [hW.1]; exact hW.2.1, Bd.notSynchronized, hFs⟩
  have hr := Bd.returns
  rcases x0 with _ | x0
  · have hl := lv_entry ([.null, .int x1, .int x2]) (n := 3) (Nat.le_of_ble_eq_true rfl)
    show W p l e rX9_combine s m _ below meth c s.heap [] 0 0 _ (entryFrame m ([.null, .int x1, .int x2] : List Value).toArray 3)
    rw [lg_entry_eq]
    generalize (lg_sl ([.null, .int x1, .int x2]) ++ List.replicate (3 - (lg_sl ([.null, .int x1, .int x2])).length) Slot.unset).toArray = ls at hl ⊢
    have hl : lv_has ls 3 (List.map gq [(0, vR none), (1, vI x1), (2, vI x2)]) := hl
    exact t_X9_combine_0 X hr _ _ _ _ _ hf rfl s.heap [] ls hW va_S.rf (lv_has_sub hl (lvsub_of _ _ [0, 1, 2] rfl))
  · have hl := lv_entry ([.ref x0, .int x1, .int x2]) (n := 3) (Nat.le_of_ble_eq_true rfl)
    show W p l e rX9_combine s m _ below meth c s.heap [] 0 0 _ (entryFrame m ([.ref x0, .int x1, .int x2] : List Value).toArray 3)
    rw [lg_entry_eq]
    generalize (lg_sl ([.ref x0, .int x1, .int x2]) ++ List.replicate (3 - (lg_sl ([.ref x0, .int x1, .int x2])).length) Slot.unset).toArray = ls at hl ⊢
    have hl : lv_has ls 3 (List.map gq [(0, vR (some x0)), (1, vI x1), (2, vI x2)]) := hl
    exact t_X9_combine_0 X hr _ _ _ _ _ hf rfl s.heap [] ls hW va_S.rf (lv_has_sub hl (lvsub_of _ _ [0, 1, 2] rfl))
end
