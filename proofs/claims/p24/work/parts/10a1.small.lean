section
variable {p : Program} {l : Launch} {e : Env} {s : State} {m : MethodId} {args : Array Value} {below : List Frame} {meth : Method} {c : Code} {D : va_G} {cy : Nat → ClassId} {B : Nat} {H0 : Heap} {Z : Nat → Nat}
/-! ## TideLots$Ground.allFish()I -/
theorem dX3_allFish_0 : decode cX3_allFish 0 = .ok (.iconst 0, 1) := by decide +kernel
theorem dX3_allFish_1 : decode cX3_allFish 1 = .ok (.istore_n 1, 1) := by decide +kernel
theorem dX3_allFish_2 : decode cX3_allFish 2 = .ok (.iconst 1, 1) := by decide +kernel
theorem dX3_allFish_3 : decode cX3_allFish 3 = .ok (.istore_n 2, 1) := by decide +kernel
theorem dX3_allFish_4 : decode cX3_allFish 4 = .ok (.iload_n 2, 1) := by decide +kernel
theorem dX3_allFish_5 : decode cX3_allFish 5 = .ok (.iconst 5, 1) := by decide +kernel
theorem dX3_allFish_6 : decode cX3_allFish 6 = .ok (.if_icmp .gt 18, 3) := by decide +kernel
theorem dX3_allFish_9 : decode cX3_allFish 9 = .ok (.iload_n 1, 1) := by decide +kernel
theorem dX3_allFish_10 : decode cX3_allFish 10 = .ok (.aload_n 0, 1) := by decide +kernel
theorem dX3_allFish_11 : decode cX3_allFish 11 = .ok (.getfield 9, 3) := by decide +kernel
theorem dX3_allFish_14 : decode cX3_allFish 14 = .ok (.iload_n 2, 1) := by decide +kernel
theorem dX3_allFish_15 : decode cX3_allFish 15 = .ok (.iaload, 1) := by decide +kernel
theorem dX3_allFish_16 : decode cX3_allFish 16 = .ok (.iadd, 1) := by decide +kernel
theorem dX3_allFish_17 : decode cX3_allFish 17 = .ok (.istore_n 1, 1) := by decide +kernel
theorem dX3_allFish_18 : decode cX3_allFish 18 = .ok (.iinc 2 1, 3) := by decide +kernel
theorem dX3_allFish_21 : decode cX3_allFish 21 = .ok (.goto (-17), 3) := by decide +kernel
theorem dX3_allFish_24 : decode cX3_allFish 24 = .ok (.iload_n 1, 1) := by decide +kernel
theorem dX3_allFish_25 : decode cX3_allFish 25 = .ok (.ireturn, 1) := by decide +kernel
theorem k_X3_allFish_f9 : Cond.fieldLink RX3 9 "TideLots$Ground" "fish" "[I" ∈ wsX3_allFish := by decide +kernel
theorem i_X3_allFish_X3 : ∀ w ∈ u_ws RX3 TX3 4, w ∈ wsX3_allFish := by decide +kernel
abbrev rX3_allFish : Room := { frames := 0, cells := 0, slots := 0, locals := 0 }
noncomputable def bb_X3_allFish_4 (M : gMem) (x0 : Nat) (x1 : Int32) (x2 : Int32) : Option ((gMem × Int32 × Int32) ⊕ (Int32 × gMem)) :=
  (if (5 : Int32) < x2 then oI (some (x1, M)) else ck (mT M x0 = 3) <| dr ((mR M x0 3)) fun a3 => ck (mT M a3 = 20) <| ck (inb x2 (mL M a3)) <| some (.inl (M, (x1 + (mI M a3 x2.toNatClampNeg)), (x2 + (1 : Int32)))))
noncomputable def lp_X3_allFish_4 (M : gMem) (x0 : Nat) (x1 : Int32) (x2 : Int32) : Option (Int32 × gMem) :=
  lp (fun (q : gMem × Int32 × Int32) => bb_X3_allFish_4 q.1 x0 q.2.1 q.2.2) (M, x1, x2)
noncomputable def b_X3_allFish_0 (M : gMem) (x0 : Nat) : Option (Int32 × gMem) :=
  lp_X3_allFish_4 M x0 ((0 : Int32)) ((1 : Int32))
noncomputable def f_X3_allFish (M : gMem) (x0 : Nat) : Option (Int32 × gMem) :=
  b_X3_allFish_0 M x0
set_option maxHeartbeats 4000000 in
set_option maxRecDepth 100000 in
theorem tb_X3_allFish_4 (X : gX p s m args meth c D cy B (gSt Z B H0) RX3 cX3_allFish wsX3_allFish 3) (hr : meth.sig.returnType = (some .int)) {Q : State → Prop} : ∀ (M : gMem) (x0 : Nat) (x1 : Int32) (x2 : Int32) (z : (gMem × Int32 × Int32) ⊕ (Int32 × gMem)), bb_X3_allFish_4 M x0 x1 x2 = some z → (Sum.elim (fun (q : gMem × Int32 × Int32) => gGo p l e rX3_allFish s m args below meth c D cy B H0 3 0 0 Q 4 [(0, vR (some x0)), (1, vI q.2.1), (2, vI q.2.2)] [] q.1) (fun (r : Int32 × gMem) => Q = gMQ below D cy B H0 args s 0 0 (some (vI r.1)) r.2)) z → gGo p l e rX3_allFish s m args below meth c D cy B H0 3 0 0 Q 4 [(0, vR (some x0)), (1, vI x1), (2, vI x2)] [] M := by
  intro M x0 x1 x2 z hf hK
  unfold bb_X3_allFish_4 at hf
  refine g_iload_n X dX3_allFish_4 rfl rfl ?_
  refine g_iconst (v := (5 : Int32)) X dX3_allFish_5 (by decide) ?_
  refine g_icmp_gt (tgt := 24) X dX3_allFish_6 (by decide) (fun hc => ?_) (fun hc => ?_)
  · have hf := ife_t hc hf
    refine g_iload_n X dX3_allFish_24 rfl rfl ?_
    obtain ⟨w1, hw1, hz1⟩ := oI_e hf
    subst hz1
    have hf := hw1
    cases hf
    refine g_eqQ hK ?_
    exact g_iret X hr dX3_allFish_25
  · have hf := ife_f hc hf
    refine g_iload_n X dX3_allFish_9 rfl rfl ?_
    refine g_aload_n X dX3_allFish_10 rfl rfl ?_
    obtain ⟨hT2, hf⟩ := ck_e hf
    refine g_get (ci := 2) (v := vR (mR M x0 3)) 3 X cdX3 i_X3_allFish_X3 (by decide) k_X3_allFish_f9 rfl dX3_allFish_11 rfl hT2 rfl ?_
    refine g_iload_n X dX3_allFish_14 rfl rfl ?_
    obtain ⟨a3, ha3, hf⟩ := dr_e hf
    obtain ⟨hT4, hf⟩ := ck_e hf
    obtain ⟨hg5, hf⟩ := ck_e hf
    refine g_iald X dX3_allFish_15 ha3 hT4 hg5 ?_
    refine g_iadd X dX3_allFish_16 ?_
    refine g_istore_n (lv' := [(1, vI (x1 + (mI M a3 x2.toNatClampNeg))), (0, vR (some x0)), (2, vI x2)]) X dX3_allFish_17 rfl (by decide) rfl ?_
    refine g_iinc (v := (1 : Int32)) (lv' := [(2, vI (x2 + (1 : Int32))), (1, vI (x1 + (mI M a3 x2.toNatClampNeg))), (0, vR (some x0))]) X dX3_allFish_18 rfl (by decide) (by decide) rfl ?_
    refine g_goto (tgt := 4) X dX3_allFish_21 (by decide) ?_
    cases hf
    refine g_sub (lvsub_of _ _ [2, 1, 0] rfl) ?_
    exact hK
set_option maxHeartbeats 4000000 in
set_option maxRecDepth 100000 in
theorem tl_X3_allFish_4 (X : gX p s m args meth c D cy B (gSt Z B H0) RX3 cX3_allFish wsX3_allFish 3) (hr : meth.sig.returnType = (some .int)) {Q : State → Prop} : ∀ (M : gMem) (x0 : Nat) (x1 : Int32) (x2 : Int32) (z : Int32 × gMem), lp_X3_allFish_4 M x0 x1 x2 = some z → (fun (r : Int32 × gMem) => Q = gMQ below D cy B H0 args s 0 0 (some (vI r.1)) r.2) z → gGo p l e rX3_allFish s m args below meth c D cy B H0 3 0 0 Q 4 [(0, vR (some x0)), (1, vI x1), (2, vI x2)] [] M := by
  intro M x0 x1 x2 z hf hK
  refine lp_ind (P := (fun (q : gMem × Int32 × Int32) (z : Int32 × gMem) => (fun (r : Int32 × gMem) => Q = gMQ below D cy B H0 args s 0 0 (some (vI r.1)) r.2) z → gGo p l e rX3_allFish s m args below meth c D cy B H0 3 0 0 Q 4 [(0, vR (some x0)), (1, vI q.2.1), (2, vI q.2.2)] [] q.1)) (fun q z hq => ?_) _ _ hf hK
  intro hK
  obtain ⟨w, hw, hm⟩ := hq
  refine tb_X3_allFish_4 X hr _ _ _ _ w hw ?_
  cases w with
  | inl a => exact hm hK
  | inr b => cases hm; exact hK
set_option maxHeartbeats 4000000 in
set_option maxRecDepth 100000 in
theorem t_X3_allFish_0 (X : gX p s m args meth c D cy B (gSt Z B H0) RX3 cX3_allFish wsX3_allFish 3) (hr : meth.sig.returnType = (some .int)) {Q : State → Prop} : ∀ (M : gMem) (x0 : Nat) (z : Int32 × gMem), b_X3_allFish_0 M x0 = some z → (fun (r : Int32 × gMem) => Q = gMQ below D cy B H0 args s 0 0 (some (vI r.1)) r.2) z → gGo p l e rX3_allFish s m args below meth c D cy B H0 3 0 0 Q 0 [(0, vR (some x0))] [] M := by
  intro M x0 z hf hK
  unfold b_X3_allFish_0 at hf
  refine g_iconst (v := (0 : Int32)) X dX3_allFish_0 (by decide) ?_
  refine g_istore_n (lv' := [(1, vI (0 : Int32)), (0, vR (some x0))]) X dX3_allFish_1 rfl (by decide) rfl ?_
  refine g_iconst (v := (1 : Int32)) X dX3_allFish_2 (by decide) ?_
  refine g_istore_n (lv' := [(2, vI (1 : Int32)), (1, vI (0 : Int32)), (0, vR (some x0))]) X dX3_allFish_3 rfl (by decide) rfl ?_
  refine g_sub (lvsub_of _ _ [2, 1, 0] rfl) ?_
  exact tl_X3_allFish_4 X hr _ _ _ _ _ hf hK
set_option maxHeartbeats 4000000 in
set_option maxRecDepth 100000 in
theorem m_X3_allFish (l : Launch) {D : va_G} {cy : Nat → ClassId} {B : Nat} {H0 : Heap} {Z : Nat → Nat} {M M1 : gMem} {x0 : Nat} {r : Int32} (hf : f_X3_allFish M x0 = some (r, M1)) : Met l yX3_allFish wsX3_allFish rX3_allFish (va_Pc (Value.ref x0 :: List.map gv []) (gPre D cy B H0 (gSt Z B H0) M)) (gQ D cy B H0 (some (vI r)) M1) 0 0 (gA B) := by
  refine Met.ofW (cc := cX3_allFish) (maxL := 3) (ret := (some .int)) (by decide) rfl ?_
  intro p e s m args below meth c s₁ Bd hml hv
  obtain ⟨rfl, hW, hKK, hFs⟩ := hv
  have X : gX p s m _ meth c D cy B (gSt Z B H0) RX3 cX3_allFish wsX3_allFish 3 := ⟨Bd.exec, Bd.bytes, atoms_spec (ws := wsX3_allFish) Bd.pre, findClass_of_methodNamed Bd.named, hml, hKK, by rw [hW.1]; exact hW.2.1, Bd.notSynchronized, hFs⟩
  have hr := Bd.returns
  have hl := lv_entry ([.ref x0]) (n := 3) (Nat.le_of_ble_eq_true rfl)
  show W p l e rX3_allFish s m _ below meth c s.heap [] 0 0 _ (entryFrame m ([.ref x0] : List Value).toArray 3)
  rw [lg_entry_eq]
  generalize (lg_sl ([.ref x0]) ++ List.replicate (3 - (lg_sl ([.ref x0])).length) Slot.unset).toArray = ls at hl ⊢
  have hl : lv_has ls 3 (List.map gq [(0, vR (some x0))]) := hl
  exact t_X3_allFish_0 X hr _ _ _ hf rfl s.heap [] ls hW va_S.rf (lv_has_sub hl (lvsub_of _ _ [0] rfl))
/-! ## TideLots$Ground.grow()V -/
theorem dX3_grow_0 : decode cX3_grow 0 = .ok (.iconst 4, 1) := by decide +kernel
theorem dX3_grow_1 : decode cX3_grow 1 = .ok (.istore_n 1, 1) := by decide +kernel
theorem dX3_grow_2 : decode cX3_grow 2 = .ok (.iload_n 1, 1) := by decide +kernel
theorem dX3_grow_3 : decode cX3_grow 3 = .ok (.iconst 1, 1) := by decide +kernel
theorem dX3_grow_4 : decode cX3_grow 4 = .ok (.if_icmp .lt 51, 3) := by decide +kernel
theorem dX3_grow_7 : decode cX3_grow 7 = .ok (.aload_n 0, 1) := by decide +kernel
theorem dX3_grow_8 : decode cX3_grow 8 = .ok (.getfield 9, 3) := by decide +kernel
theorem dX3_grow_11 : decode cX3_grow 11 = .ok (.iload_n 1, 1) := by decide +kernel
theorem dX3_grow_12 : decode cX3_grow 12 = .ok (.iaload, 1) := by decide +kernel
theorem dX3_grow_13 : decode cX3_grow 13 = .ok (.iconst 5, 1) := by decide +kernel
theorem dX3_grow_14 : decode cX3_grow 14 = .ok (.idiv, 1) := by decide +kernel
theorem dX3_grow_15 : decode cX3_grow 15 = .ok (.istore_n 2, 1) := by decide +kernel
theorem dX3_grow_16 : decode cX3_grow 16 = .ok (.aload_n 0, 1) := by decide +kernel
theorem dX3_grow_17 : decode cX3_grow 17 = .ok (.getfield 9, 3) := by decide +kernel
theorem dX3_grow_20 : decode cX3_grow 20 = .ok (.iload_n 1, 1) := by decide +kernel
theorem dX3_grow_21 : decode cX3_grow 21 = .ok (.dup2, 1) := by decide +kernel
theorem dX3_grow_22 : decode cX3_grow 22 = .ok (.iaload, 1) := by decide +kernel
theorem dX3_grow_23 : decode cX3_grow 23 = .ok (.iload_n 2, 1) := by decide +kernel
theorem dX3_grow_24 : decode cX3_grow 24 = .ok (.isub, 1) := by decide +kernel
theorem dX3_grow_25 : decode cX3_grow 25 = .ok (.iastore, 1) := by decide +kernel
theorem dX3_grow_26 : decode cX3_grow 26 = .ok (.aload_n 0, 1) := by decide +kernel
theorem dX3_grow_27 : decode cX3_grow 27 = .ok (.getfield 9, 3) := by decide +kernel
theorem dX3_grow_30 : decode cX3_grow 30 = .ok (.iload_n 1, 1) := by decide +kernel
theorem dX3_grow_31 : decode cX3_grow 31 = .ok (.iconst 1, 1) := by decide +kernel
theorem dX3_grow_32 : decode cX3_grow 32 = .ok (.iadd, 1) := by decide +kernel
theorem dX3_grow_33 : decode cX3_grow 33 = .ok (.aload_n 0, 1) := by decide +kernel
theorem dX3_grow_34 : decode cX3_grow 34 = .ok (.getfield 9, 3) := by decide +kernel
theorem dX3_grow_37 : decode cX3_grow 37 = .ok (.iload_n 1, 1) := by decide +kernel
theorem dX3_grow_38 : decode cX3_grow 38 = .ok (.iconst 1, 1) := by decide +kernel
theorem dX3_grow_39 : decode cX3_grow 39 = .ok (.iadd, 1) := by decide +kernel
theorem dX3_grow_40 : decode cX3_grow 40 = .ok (.iaload, 1) := by decide +kernel
theorem dX3_grow_41 : decode cX3_grow 41 = .ok (.iload_n 2, 1) := by decide +kernel
theorem dX3_grow_42 : decode cX3_grow 42 = .ok (.iadd, 1) := by decide +kernel
theorem dX3_grow_43 : decode cX3_grow 43 = .ok (.bipush 99, 2) := by decide +kernel
theorem dX3_grow_45 : decode cX3_grow 45 = .ok (.invokestatic 25, 3) := by decide +kernel
theorem dX3_grow_48 : decode cX3_grow 48 = .ok (.iastore, 1) := by decide +kernel
theorem dX3_grow_49 : decode cX3_grow 49 = .ok (.iinc 1 (-1), 3) := by decide +kernel
theorem dX3_grow_52 : decode cX3_grow 52 = .ok (.goto (-50), 3) := by decide +kernel
theorem dX3_grow_55 : decode cX3_grow 55 = .ok (.aload_n 0, 1) := by decide +kernel
theorem dX3_grow_56 : decode cX3_grow 56 = .ok (.getfield 9, 3) := by decide +kernel
theorem dX3_grow_59 : decode cX3_grow 59 = .ok (.iconst 1, 1) := by decide +kernel
theorem dX3_grow_60 : decode cX3_grow 60 = .ok (.aload_n 0, 1) := by decide +kernel
theorem dX3_grow_61 : decode cX3_grow 61 = .ok (.getfield 9, 3) := by decide +kernel
theorem dX3_grow_64 : decode cX3_grow 64 = .ok (.iconst 1, 1) := by decide +kernel
theorem dX3_grow_65 : decode cX3_grow 65 = .ok (.iaload, 1) := by decide +kernel
theorem dX3_grow_66 : decode cX3_grow 66 = .ok (.aload_n 0, 1) := by decide +kernel
theorem dX3_grow_67 : decode cX3_grow 67 = .ok (.invokevirtual 31, 3) := by decide +kernel
theorem dX3_grow_70 : decode cX3_grow 70 = .ok (.bipush 6, 2) := by decide +kernel
theorem dX3_grow_72 : decode cX3_grow 72 = .ok (.idiv, 1) := by decide +kernel
theorem dX3_grow_73 : decode cX3_grow 73 = .ok (.iadd, 1) := by decide +kernel
theorem dX3_grow_74 : decode cX3_grow 74 = .ok (.bipush 99, 2) := by decide +kernel
theorem dX3_grow_76 : decode cX3_grow 76 = .ok (.invokestatic 25, 3) := by decide +kernel
theorem dX3_grow_79 : decode cX3_grow 79 = .ok (.iastore, 1) := by decide +kernel
theorem dX3_grow_80 : decode cX3_grow 80 = .ok (.return_, 1) := by decide +kernel
set_option maxRecDepth 20000 in
theorem ggX3_grow_X3_allFish : GoodIn wsX3_grow wsX3_allFish := goodIn_r _ [10, 1, 11, 12, 13, 14] (by decide +kernel) (by decide +kernel)
set_option maxRecDepth 20000 in
theorem gX3_grow_X3_allFish : GoodIn wsX3_grow (wsV RX3 31 RX3 yX3_allFish wsX3_allFish) := goodIn_app (goodIn_of _ (by decide +kernel)) ggX3_grow_X3_allFish
theorem k_X3_grow_f9 : Cond.fieldLink RX3 9 "TideLots$Ground" "fish" "[I" ∈ wsX3_grow := by decide +kernel
theorem i_X3_grow_X3 : ∀ w ∈ u_ws RX3 TX3 4, w ∈ wsX3_grow := by decide +kernel
theorem k_X3_grow_m25 : Cond.methodLink RX3 25 Lib.Math.min.name ∈ wsX3_grow := by decide +kernel
theorem k_X3_grow_mmins : Cond.static Lib.Math.min.name ∈ wsX3_grow := by decide +kernel
theorem k_X3_grow_mi : Cond.initialized "java/lang/Math" ∈ wsX3_grow := by decide +kernel
theorem k_X3_grow_mminc : Cond.code Lib.Math.min.name Lib.Math.min.code 2 (some .int) ∈ wsX3_grow := by decide +kernel
abbrev rX3_grow : Room := { frames := 1, cells := 0, slots := 0, locals := 22 }
noncomputable def bb_X3_grow_2 (M : gMem) (x0 : Nat) (x1 : Int32) : Option ((gMem × Int32) ⊕ (Unit × gMem)) :=
  (if x1 < (1 : Int32) then ck (mT M x0 = 3) <| dr ((mR M x0 3)) fun a2 => ck (mT M a2 = 20) <| ck (inb (1 : Int32) (mL M a2)) <| bd (f_X3_allFish M x0) fun r5 M5 => ck (mT M5 a2 = 20) <| ck (inb (1 : Int32) (mL M5 a2)) <| lw (wI M5 a2 ((1 : Int32)).toNatClampNeg ((imin (((mI M a2 ((1 : Int32)).toNatClampNeg) + (r5 / (6 : Int32)))) ((99 : Int32))))) fun M8 => oI (some ((), M8)) else ck (mT M x0 = 3) <| dr ((mR M x0 3)) fun a12 => ck (mT M a12 = 20) <| ck (inb x1 (mL M a12)) <| ck (inb x1 (mL M a12)) <| ck (inb x1 (mL M a12)) <| lw (wI M a12 x1.toNatClampNeg (((mI M a12 x1.toNatClampNeg) - ((mI M a12 x1.toNatClampNeg) / (5 : Int32))))) fun M17 => dr ((mR M17 x0 3)) fun a20 => ck (mT M17 a20 = 20) <| ck (inb (x1 + (1 : Int32)) (mL M17 a20)) <| ck (inb (x1 + (1 : Int32)) (mL M17 a20)) <| lw (wI M17 a20 ((x1 + (1 : Int32))).toNatClampNeg ((imin (((mI M17 a20 ((x1 + (1 : Int32))).toNatClampNeg) + ((mI M a12 x1.toNatClampNeg) / (5 : Int32)))) ((99 : Int32))))) fun M24 => some (.inl (M24, (x1 + (-1 : Int32)))))
noncomputable def lp_X3_grow_2 (M : gMem) (x0 : Nat) (x1 : Int32) : Option (Unit × gMem) :=
  lp (fun (q : gMem × Int32) => bb_X3_grow_2 q.1 x0 q.2) (M, x1)
noncomputable def b_X3_grow_0 (M : gMem) (x0 : Nat) : Option (Unit × gMem) :=
  lp_X3_grow_2 M x0 ((4 : Int32))
noncomputable def f_X3_grow (M : gMem) (x0 : Nat) : Option (Unit × gMem) :=
  b_X3_grow_0 M x0
set_option maxHeartbeats 4000000 in
set_option maxRecDepth 100000 in
theorem tb_X3_grow_2 (X : gX p s m args meth c D cy B (gSt Z B H0) RX3 cX3_grow wsX3_grow 3) (hr : meth.sig.returnType = none) {Q : State → Prop} : ∀ (M : gMem) (x0 : Nat) (x1 : Int32) (z : (gMem × Int32) ⊕ (Unit × gMem)), bb_X3_grow_2 M x0 x1 = some z → (Sum.elim (fun (q : gMem × Int32) => gGo p l e rX3_grow s m args below meth c D cy B H0 3 0 0 Q 2 [(0, vR (some x0)), (1, vI q.2)] [] q.1) (fun (r : Unit × gMem) => Q = gMQ below D cy B H0 args s 0 0 none r.2)) z → gGo p l e rX3_grow s m args below meth c D cy B H0 3 0 0 Q 2 [(0, vR (some x0)), (1, vI x1)] [] M := by
  intro M x0 x1 z hf hK
  unfold bb_X3_grow_2 at hf
  refine g_iload_n X dX3_grow_2 rfl rfl ?_
  refine g_iconst (v := (1 : Int32)) X dX3_grow_3 (by decide) ?_
  refine g_icmp_lt (tgt := 55) X dX3_grow_4 (by decide) (fun hc => ?_) (fun hc => ?_)
  · have hf := ife_t hc hf
    refine g_aload_n X dX3_grow_55 rfl rfl ?_
    obtain ⟨hT1, hf⟩ := ck_e hf
    refine g_get (ci := 2) (v := vR (mR M x0 3)) 3 X cdX3 i_X3_grow_X3 (by decide) k_X3_grow_f9 rfl dX3_grow_56 rfl hT1 rfl ?_
    refine g_iconst (v := (1 : Int32)) X dX3_grow_59 (by decide) ?_
    refine g_aload_n X dX3_grow_60 rfl rfl ?_
    refine g_get (ci := 2) (v := vR (mR M x0 3)) 3 X cdX3 i_X3_grow_X3 (by decide) k_X3_grow_f9 rfl dX3_grow_61 rfl hT1 rfl ?_
    refine g_iconst (v := (1 : Int32)) X dX3_grow_64 (by decide) ?_
    obtain ⟨a2, ha2, hf⟩ := dr_e hf
    obtain ⟨hT3, hf⟩ := ck_e hf
    obtain ⟨hg4, hf⟩ := ck_e hf
    refine g_iald X dX3_grow_65 ha2 hT3 hg4 ?_
    refine g_aload_n X dX3_grow_66 rfl rfl ?_
    obtain ⟨r5, M5, hq5, hf⟩ := bd_e hf
    refine g_callV (ci := 2) (b := x0) (As := []) (st := [vI (mI M a2 ((1 : Int32)).toNatClampNeg), vI (1 : Int32), vR (mR M x0 3)]) (v := some (vI r5)) (M1 := M5) X (m_X3_allFish l hq5) (cwV 0 X.2.2.1 gX3_grow_X3_allFish rfl rfl rfl (by decide +kernel) ⟨Nat.le_of_ble_eq_true rfl, Nat.le_of_ble_eq_true rfl⟩) rfl rfl rfl hT1 (by decide) rfl (Nat.le_of_ble_eq_true rfl) dX3_grow_67 ⟨by decide, by decide⟩ ?_
    refine g_bipush (v := (6 : Int32)) X dX3_grow_70 (by decide) ?_
    refine g_idiv X dX3_grow_72 (by decide) ?_
    refine g_iadd X dX3_grow_73 ?_
    refine g_bipush (v := (99 : Int32)) X dX3_grow_74 (by decide) ?_
    refine g_min X k_X3_grow_m25 k_X3_grow_mmins k_X3_grow_mi k_X3_grow_mminc (Nat.le_of_ble_eq_true rfl) (Nat.le_of_ble_eq_true rfl) ⟨by decide, by decide⟩ dX3_grow_76 ?_
    obtain ⟨hT6, hf⟩ := ck_e hf
    obtain ⟨hg7, hf⟩ := ck_e hf
    refine g_iast X dX3_grow_79 ha2 hT6 hg7 ?_
    obtain ⟨M8, hM8, hf⟩ := lw_e hf
    rw [← hM8]
    have hT9 : mT M8 a2 = 20 := by rw [hM8]; exact hT6
    obtain ⟨w10, hw10, hz10⟩ := oI_e hf
    subst hz10
    have hf := hw10
    cases hf
    refine g_eqQ hK ?_
    exact g_vret X hr dX3_grow_80
  · have hf := ife_f hc hf
    refine g_aload_n X dX3_grow_7 rfl rfl ?_
    obtain ⟨hT11, hf⟩ := ck_e hf
    refine g_get (ci := 2) (v := vR (mR M x0 3)) 3 X cdX3 i_X3_grow_X3 (by decide) k_X3_grow_f9 rfl dX3_grow_8 rfl hT11 rfl ?_
    refine g_iload_n X dX3_grow_11 rfl rfl ?_
    obtain ⟨a12, ha12, hf⟩ := dr_e hf
    obtain ⟨hT13, hf⟩ := ck_e hf
    obtain ⟨hg14, hf⟩ := ck_e hf
    refine g_iald X dX3_grow_12 ha12 hT13 hg14 ?_
    refine g_iconst (v := (5 : Int32)) X dX3_grow_13 (by decide) ?_
    refine g_idiv X dX3_grow_14 (by decide) ?_
    refine g_istore_n (lv' := [(2, vI ((mI M a12 x1.toNatClampNeg) / (5 : Int32))), (0, vR (some x0)), (1, vI x1)]) X dX3_grow_15 rfl (by decide) rfl ?_
    refine g_aload_n X dX3_grow_16 rfl rfl ?_
    refine g_get (ci := 2) (v := vR (mR M x0 3)) 3 X cdX3 i_X3_grow_X3 (by decide) k_X3_grow_f9 rfl dX3_grow_17 rfl hT11 rfl ?_
    refine g_iload_n X dX3_grow_20 rfl rfl ?_
    refine g_dup2 X dX3_grow_21 rfl rfl ?_
    obtain ⟨hg15, hf⟩ := ck_e hf
    refine g_iald X dX3_grow_22 ha12 hT13 hg15 ?_
    refine g_iload_n X dX3_grow_23 rfl rfl ?_
    refine g_isub X dX3_grow_24 ?_
    obtain ⟨hg16, hf⟩ := ck_e hf
    refine g_iast X dX3_grow_25 ha12 hT13 hg16 ?_
    obtain ⟨M17, hM17, hf⟩ := lw_e hf
    rw [← hM17]
    have hT18 : mT M17 x0 = 3 := by rw [hM17]; exact hT11
    have hT19 : mT M17 a12 = 20 := by rw [hM17]; exact hT13
    refine g_aload_n X dX3_grow_26 rfl rfl ?_
    refine g_get (ci := 2) (v := vR (mR M17 x0 3)) 3 X cdX3 i_X3_grow_X3 (by decide) k_X3_grow_f9 rfl dX3_grow_27 rfl hT18 rfl ?_
    refine g_iload_n X dX3_grow_30 rfl rfl ?_
    refine g_iconst (v := (1 : Int32)) X dX3_grow_31 (by decide) ?_
    refine g_iadd X dX3_grow_32 ?_
    refine g_aload_n X dX3_grow_33 rfl rfl ?_
    refine g_get (ci := 2) (v := vR (mR M17 x0 3)) 3 X cdX3 i_X3_grow_X3 (by decide) k_X3_grow_f9 rfl dX3_grow_34 rfl hT18 rfl ?_
    refine g_iload_n X dX3_grow_37 rfl rfl ?_
    refine g_iconst (v := (1 : Int32)) X dX3_grow_38 (by decide) ?_
    refine g_iadd X dX3_grow_39 ?_
    obtain ⟨a20, ha20, hf⟩ := dr_e hf
    obtain ⟨hT21, hf⟩ := ck_e hf
    obtain ⟨hg22, hf⟩ := ck_e hf
    refine g_iald X dX3_grow_40 ha20 hT21 hg22 ?_
    refine g_iload_n X dX3_grow_41 rfl rfl ?_
    refine g_iadd X dX3_grow_42 ?_
    refine g_bipush (v := (99 : Int32)) X dX3_grow_43 (by decide) ?_
    refine g_min X k_X3_grow_m25 k_X3_grow_mmins k_X3_grow_mi k_X3_grow_mminc (Nat.le_of_ble_eq_true rfl) (Nat.le_of_ble_eq_true rfl) ⟨by decide, by decide⟩ dX3_grow_45 ?_
    obtain ⟨hg23, hf⟩ := ck_e hf
    refine g_iast X dX3_grow_48 ha20 hT21 hg23 ?_
    obtain ⟨M24, hM24, hf⟩ := lw_e hf
    rw [← hM24]
    have hT25 : mT M24 x0 = 3 := by rw [hM24]; exact hT18
    have hT26 : mT M24 a12 = 20 := by rw [hM24]; exact hT19
    have hT27 : mT M24 a20 = 20 := by rw [hM24]; exact hT21
    refine g_iinc (v := (-1 : Int32)) (lv' := [(1, vI (x1 + (-1 : Int32))), (2, vI ((mI M a12 x1.toNatClampNeg) / (5 : Int32))), (0, vR (some x0))]) X dX3_grow_49 rfl (by decide) (by decide) rfl ?_
    refine g_goto (tgt := 2) X dX3_grow_52 (by decide) ?_
    cases hf
    refine g_sub (lvsub_of _ _ [2, 0] rfl) ?_
    exact hK
set_option maxHeartbeats 4000000 in
set_option maxRecDepth 100000 in
theorem tl_X3_grow_2 (X : gX p s m args meth c D cy B (gSt Z B H0) RX3 cX3_grow wsX3_grow 3) (hr : meth.sig.returnType = none) {Q : State → Prop} : ∀ (M : gMem) (x0 : Nat) (x1 : Int32) (z : Unit × gMem), lp_X3_grow_2 M x0 x1 = some z → (fun (r : Unit × gMem) => Q = gMQ below D cy B H0 args s 0 0 none r.2) z → gGo p l e rX3_grow s m args below meth c D cy B H0 3 0 0 Q 2 [(0, vR (some x0)), (1, vI x1)] [] M := by
  intro M x0 x1 z hf hK
  refine lp_ind (P := (fun (q : gMem × Int32) (z : Unit × gMem) => (fun (r : Unit × gMem) => Q = gMQ below D cy B H0 args s 0 0 none r.2) z → gGo p l e rX3_grow s m args below meth c D cy B H0 3 0 0 Q 2 [(0, vR (some x0)), (1, vI q.2)] [] q.1)) (fun q z hq => ?_) _ _ hf hK
  intro hK
  obtain ⟨w, hw, hm⟩ := hq
  refine tb_X3_grow_2 X hr _ _ _ w hw ?_
  cases w with
  | inl a => exact hm hK
  | inr b => cases hm; exact hK
set_option maxHeartbeats 4000000 in
set_option maxRecDepth 100000 in
theorem t_X3_grow_0 (X : gX p s m args meth c D cy B (gSt Z B H0) RX3 cX3_grow wsX3_grow 3) (hr : meth.sig.returnType = none) {Q : State → Prop} : ∀ (M : gMem) (x0 : Nat) (z : Unit × gMem), b_X3_grow_0 M x0 = some z → (fun (r : Unit × gMem) => Q = gMQ below D cy B H0 args s 0 0 none r.2) z → gGo p l e rX3_grow s m args below meth c D cy B H0 3 0 0 Q 0 [(0, vR (some x0))] [] M := by
  intro M x0 z hf hK
  unfold b_X3_grow_0 at hf
  refine g_iconst (v := (4 : Int32)) X dX3_grow_0 (by decide) ?_
  refine g_istore_n (lv' := [(1, vI (4 : Int32)), (0, vR (some x0))]) X dX3_grow_1 rfl (by decide) rfl ?_
  refine g_sub (lvsub_of _ _ [1, 0] rfl) ?_
  exact tl_X3_grow_2 X hr _ _ _ _ hf hK
set_option maxHeartbeats 4000000 in
set_option maxRecDepth 100000 in
theorem m_X3_grow (l : Launch) {D : va_G} {cy : Nat → ClassId} {B : Nat} {H0 : Heap} {Z : Nat → Nat} {M M1 : gMem} {x0 : Nat} {r : Unit} (hf : f_X3_grow M x0 = some (r, M1)) : Met l yX3_grow wsX3_grow rX3_grow (va_Pc (Value.ref x0 :: List.map gv []) (gPre D cy B H0 (gSt Z B H0) M)) (gQ D cy B H0 none M1) 0 0 (gA B) := by
  refine Met.ofW (cc := cX3_grow) (maxL := 3) (ret := none) (by decide) rfl ?_
  intro p e s m args below meth c s₁ Bd hml hv
  obtain ⟨rfl, hW, hKK, hFs⟩ := hv
  have X : gX p s m _ meth c D cy B (gSt Z B H0) RX3 cX3_grow wsX3_grow 3 := ⟨Bd.exec, Bd.bytes, atoms_spec (ws := wsX3_grow) Bd.pre, findClass_of_methodNamed Bd.named, hml, hKK, by rw [hW.1]; exact hW.2.1, Bd.notSynchronized, hFs⟩
  have hr := Bd.returns
  have hl := lv_entry ([.ref x0]) (n := 3) (Nat.le_of_ble_eq_true rfl)
  show W p l e rX3_grow s m _ below meth c s.heap [] 0 0 _ (entryFrame m ([.ref x0] : List Value).toArray 3)
  rw [lg_entry_eq]
  generalize (lg_sl ([.ref x0]) ++ List.replicate (3 - (lg_sl ([.ref x0])).length) Slot.unset).toArray = ls at hl ⊢
  have hl : lv_has ls 3 (List.map gq [(0, vR (some x0))]) := hl
  exact t_X3_grow_0 X hr _ _ _ hf rfl s.heap [] ls hW va_S.rf (lv_has_sub hl (lvsub_of _ _ [0] rfl))
/-! ## TideLots$Ground.copyFrom(LTideLots$Ground;)V -/
theorem dX3_copyFrom_0 : decode cX3_copyFrom 0 = .ok (.aload_n 0, 1) := by decide +kernel
theorem dX3_copyFrom_1 : decode cX3_copyFrom 1 = .ok (.aload_n 1, 1) := by decide +kernel
theorem dX3_copyFrom_2 : decode cX3_copyFrom 2 = .ok (.getfield 15, 3) := by decide +kernel
theorem dX3_copyFrom_5 : decode cX3_copyFrom 5 = .ok (.putfield 15, 3) := by decide +kernel
theorem dX3_copyFrom_8 : decode cX3_copyFrom 8 = .ok (.aload_n 0, 1) := by decide +kernel
theorem dX3_copyFrom_9 : decode cX3_copyFrom 9 = .ok (.aload_n 1, 1) := by decide +kernel
theorem dX3_copyFrom_10 : decode cX3_copyFrom 10 = .ok (.getfield 19, 3) := by decide +kernel
theorem dX3_copyFrom_13 : decode cX3_copyFrom 13 = .ok (.putfield 19, 3) := by decide +kernel
theorem dX3_copyFrom_16 : decode cX3_copyFrom 16 = .ok (.aload_n 0, 1) := by decide +kernel
theorem dX3_copyFrom_17 : decode cX3_copyFrom 17 = .ok (.aload_n 1, 1) := by decide +kernel
theorem dX3_copyFrom_18 : decode cX3_copyFrom 18 = .ok (.getfield 22, 3) := by decide +kernel
theorem dX3_copyFrom_21 : decode cX3_copyFrom 21 = .ok (.putfield 22, 3) := by decide +kernel
theorem dX3_copyFrom_24 : decode cX3_copyFrom 24 = .ok (.iconst 1, 1) := by decide +kernel
theorem dX3_copyFrom_25 : decode cX3_copyFrom 25 = .ok (.istore_n 2, 1) := by decide +kernel
theorem dX3_copyFrom_26 : decode cX3_copyFrom 26 = .ok (.iload_n 2, 1) := by decide +kernel
theorem dX3_copyFrom_27 : decode cX3_copyFrom 27 = .ok (.iconst 5, 1) := by decide +kernel
theorem dX3_copyFrom_28 : decode cX3_copyFrom 28 = .ok (.if_icmp .gt 21, 3) := by decide +kernel
theorem dX3_copyFrom_31 : decode cX3_copyFrom 31 = .ok (.aload_n 0, 1) := by decide +kernel
theorem dX3_copyFrom_32 : decode cX3_copyFrom 32 = .ok (.getfield 9, 3) := by decide +kernel
theorem dX3_copyFrom_35 : decode cX3_copyFrom 35 = .ok (.iload_n 2, 1) := by decide +kernel
theorem dX3_copyFrom_36 : decode cX3_copyFrom 36 = .ok (.aload_n 1, 1) := by decide +kernel
theorem dX3_copyFrom_37 : decode cX3_copyFrom 37 = .ok (.getfield 9, 3) := by decide +kernel
theorem dX3_copyFrom_40 : decode cX3_copyFrom 40 = .ok (.iload_n 2, 1) := by decide +kernel
theorem dX3_copyFrom_41 : decode cX3_copyFrom 41 = .ok (.iaload, 1) := by decide +kernel
theorem dX3_copyFrom_42 : decode cX3_copyFrom 42 = .ok (.iastore, 1) := by decide +kernel
theorem dX3_copyFrom_43 : decode cX3_copyFrom 43 = .ok (.iinc 2 1, 3) := by decide +kernel
theorem dX3_copyFrom_46 : decode cX3_copyFrom 46 = .ok (.goto (-20), 3) := by decide +kernel
theorem dX3_copyFrom_49 : decode cX3_copyFrom 49 = .ok (.return_, 1) := by decide +kernel
theorem k_X3_copyFrom_f9 : Cond.fieldLink RX3 9 "TideLots$Ground" "fish" "[I" ∈ wsX3_copyFrom := by decide +kernel
theorem i_X3_copyFrom_X3 : ∀ w ∈ u_ws RX3 TX3 4, w ∈ wsX3_copyFrom := by decide +kernel
theorem k_X3_copyFrom_f15 : Cond.fieldLink RX3 15 "TideLots$Ground" "room" "I" ∈ wsX3_copyFrom := by decide +kernel
theorem k_X3_copyFrom_f19 : Cond.fieldLink RX3 19 "TideLots$Ground" "boats" "I" ∈ wsX3_copyFrom := by decide +kernel
theorem k_X3_copyFrom_f22 : Cond.fieldLink RX3 22 "TideLots$Ground" "caught" "I" ∈ wsX3_copyFrom := by decide +kernel
abbrev rX3_copyFrom : Room := { frames := 0, cells := 0, slots := 0, locals := 0 }
noncomputable def bb_X3_copyFrom_26 (M : gMem) (x0 : Nat) (x1 : Option Nat) (x2 : Int32) : Option ((gMem × Int32) ⊕ (Unit × gMem)) :=
  (if (5 : Int32) < x2 then oI (some ((), M)) else ck (mT M x0 = 3) <| dr x1 fun a3 => ck (mT M a3 = 3) <| dr ((mR M a3 3)) fun a5 => ck (mT M a5 = 20) <| ck (inb x2 (mL M a5)) <| dr ((mR M x0 3)) fun a8 => ck (mT M a8 = 20) <| ck (inb x2 (mL M a8)) <| lw (wI M a8 x2.toNatClampNeg ((mI M a5 x2.toNatClampNeg))) fun M11 => some (.inl (M11, (x2 + (1 : Int32)))))
noncomputable def lp_X3_copyFrom_26 (M : gMem) (x0 : Nat) (x1 : Option Nat) (x2 : Int32) : Option (Unit × gMem) :=
  lp (fun (q : gMem × Int32) => bb_X3_copyFrom_26 q.1 x0 x1 q.2) (M, x2)
noncomputable def b_X3_copyFrom_0 (M : gMem) (x0 : Nat) (x1 : Option Nat) : Option (Unit × gMem) :=
  dr x1 fun a16 => ck (mT M a16 = 3) <| ck (mT M x0 = 3) <| lw (wI M x0 0 ((mI M a16 0))) fun M19 => lw (wI M19 x0 1 ((mI M19 a16 1))) fun M22 => lw (wI M22 x0 2 ((mI M22 a16 2))) fun M25 => lp_X3_copyFrom_26 M25 x0 x1 ((1 : Int32))
noncomputable def f_X3_copyFrom (M : gMem) (x0 : Nat) (x1 : Option Nat) : Option (Unit × gMem) :=
  b_X3_copyFrom_0 M x0 x1
set_option maxHeartbeats 4000000 in
set_option maxRecDepth 100000 in
theorem tb_X3_copyFrom_26 (X : gX p s m args meth c D cy B (gSt Z B H0) RX3 cX3_copyFrom wsX3_copyFrom 3) (hr : meth.sig.returnType = none) {Q : State → Prop} : ∀ (M : gMem) (x0 : Nat) (x1 : Option Nat) (x2 : Int32) (z : (gMem × Int32) ⊕ (Unit × gMem)), bb_X3_copyFrom_26 M x0 x1 x2 = some z → (Sum.elim (fun (q : gMem × Int32) => gGo p l e rX3_copyFrom s m args below meth c D cy B H0 3 0 0 Q 26 [(0, vR (some x0)), (1, vR x1), (2, vI q.2)] [] q.1) (fun (r : Unit × gMem) => Q = gMQ below D cy B H0 args s 0 0 none r.2)) z → gGo p l e rX3_copyFrom s m args below meth c D cy B H0 3 0 0 Q 26 [(0, vR (some x0)), (1, vR x1), (2, vI x2)] [] M := by
  intro M x0 x1 x2 z hf hK
  unfold bb_X3_copyFrom_26 at hf
  refine g_iload_n X dX3_copyFrom_26 rfl rfl ?_
  refine g_iconst (v := (5 : Int32)) X dX3_copyFrom_27 (by decide) ?_
  refine g_icmp_gt (tgt := 49) X dX3_copyFrom_28 (by decide) (fun hc => ?_) (fun hc => ?_)
  · have hf := ife_t hc hf
    obtain ⟨w1, hw1, hz1⟩ := oI_e hf
    subst hz1
    have hf := hw1
    cases hf
    refine g_eqQ hK ?_
    exact g_vret X hr dX3_copyFrom_49
  · have hf := ife_f hc hf
    refine g_aload_n X dX3_copyFrom_31 rfl rfl ?_
    obtain ⟨hT2, hf⟩ := ck_e hf
    refine g_get (ci := 2) (v := vR (mR M x0 3)) 3 X cdX3 i_X3_copyFrom_X3 (by decide) k_X3_copyFrom_f9 rfl dX3_copyFrom_32 rfl hT2 rfl ?_
    refine g_iload_n X dX3_copyFrom_35 rfl rfl ?_
    refine g_aload_n X dX3_copyFrom_36 rfl rfl ?_
    obtain ⟨a3, ha3, hf⟩ := dr_e hf
    obtain ⟨hT4, hf⟩ := ck_e hf
    refine g_get (ci := 2) (v := vR (mR M a3 3)) 3 X cdX3 i_X3_copyFrom_X3 (by decide) k_X3_copyFrom_f9 rfl dX3_copyFrom_37 ha3 hT4 rfl ?_
    refine g_iload_n X dX3_copyFrom_40 rfl rfl ?_
    obtain ⟨a5, ha5, hf⟩ := dr_e hf
    obtain ⟨hT6, hf⟩ := ck_e hf
    obtain ⟨hg7, hf⟩ := ck_e hf
    refine g_iald X dX3_copyFrom_41 ha5 hT6 hg7 ?_
    obtain ⟨a8, ha8, hf⟩ := dr_e hf
    obtain ⟨hT9, hf⟩ := ck_e hf
    obtain ⟨hg10, hf⟩ := ck_e hf
    refine g_iast X dX3_copyFrom_42 ha8 hT9 hg10 ?_
    obtain ⟨M11, hM11, hf⟩ := lw_e hf
    rw [← hM11]
    have hT12 : mT M11 x0 = 3 := by rw [hM11]; exact hT2
    have hT13 : mT M11 a3 = 3 := by rw [hM11]; exact hT4
    have hT14 : mT M11 a5 = 20 := by rw [hM11]; exact hT6
    have hT15 : mT M11 a8 = 20 := by rw [hM11]; exact hT9
    refine g_iinc (v := (1 : Int32)) (lv' := [(2, vI (x2 + (1 : Int32))), (0, vR (some x0)), (1, vR x1)]) X dX3_copyFrom_43 rfl (by decide) (by decide) rfl ?_
    refine g_goto (tgt := 26) X dX3_copyFrom_46 (by decide) ?_
    cases hf
    refine g_sub (lvsub_of _ _ [1, 2, 0] rfl) ?_
    exact hK
set_option maxHeartbeats 4000000 in
set_option maxRecDepth 100000 in
theorem tl_X3_copyFrom_26 (X : gX p s m args meth c D cy B (gSt Z B H0) RX3 cX3_copyFrom wsX3_copyFrom 3) (hr : meth.sig.returnType = none) {Q : State → Prop} : ∀ (M : gMem) (x0 : Nat) (x1 : Option Nat) (x2 : Int32) (z : Unit × gMem), lp_X3_copyFrom_26 M x0 x1 x2 = some z → (fun (r : Unit × gMem) => Q = gMQ below D cy B H0 args s 0 0 none r.2) z → gGo p l e rX3_copyFrom s m args below meth c D cy B H0 3 0 0 Q 26 [(0, vR (some x0)), (1, vR x1), (2, vI x2)] [] M := by
  intro M x0 x1 x2 z hf hK
  refine lp_ind (P := (fun (q : gMem × Int32) (z : Unit × gMem) => (fun (r : Unit × gMem) => Q = gMQ below D cy B H0 args s 0 0 none r.2) z → gGo p l e rX3_copyFrom s m args below meth c D cy B H0 3 0 0 Q 26 [(0, vR (some x0)), (1, vR x1), (2, vI q.2)] [] q.1)) (fun q z hq => ?_) _ _ hf hK
  intro hK
  obtain ⟨w, hw, hm⟩ := hq
  refine tb_X3_copyFrom_26 X hr _ _ _ _ w hw ?_
  cases w with
  | inl a => exact hm hK
  | inr b => cases hm; exact hK
set_option maxHeartbeats 4000000 in
set_option maxRecDepth 100000 in
theorem t_X3_copyFrom_0 (X : gX p s m args meth c D cy B (gSt Z B H0) RX3 cX3_copyFrom wsX3_copyFrom 3) (hr : meth.sig.returnType = none) {Q : State → Prop} : ∀ (M : gMem) (x0 : Nat) (x1 : Option Nat) (z : Unit × gMem), b_X3_copyFrom_0 M x0 x1 = some z → (fun (r : Unit × gMem) => Q = gMQ below D cy B H0 args s 0 0 none r.2) z → gGo p l e rX3_copyFrom s m args below meth c D cy B H0 3 0 0 Q 0 [(0, vR (some x0)), (1, vR x1)] [] M := by
  intro M x0 x1 z hf hK
  unfold b_X3_copyFrom_0 at hf
  refine g_aload_n X dX3_copyFrom_0 rfl rfl ?_
  refine g_aload_n X dX3_copyFrom_1 rfl rfl ?_
  obtain ⟨a16, ha16, hf⟩ := dr_e hf
  obtain ⟨hT17, hf⟩ := ck_e hf
  refine g_get (ci := 2) (v := vI (mI M a16 0)) 0 X cdX3 i_X3_copyFrom_X3 (by decide) k_X3_copyFrom_f15 rfl dX3_copyFrom_2 ha16 hT17 rfl ?_
  obtain ⟨hT18, hf⟩ := ck_e hf
  refine g_putI (ci := 2) 0 X cdX3 i_X3_copyFrom_X3 (by decide) k_X3_copyFrom_f15 rfl dX3_copyFrom_5 rfl hT18 (Or.inl rfl) rfl rfl rfl ?_
  obtain ⟨M19, hM19, hf⟩ := lw_e hf
  rw [← hM19]
  have hT20 : mT M19 a16 = 3 := by rw [hM19]; exact hT17
  have hT21 : mT M19 x0 = 3 := by rw [hM19]; exact hT18
  refine g_aload_n X dX3_copyFrom_8 rfl rfl ?_
  refine g_aload_n X dX3_copyFrom_9 rfl rfl ?_
  refine g_get (ci := 2) (v := vI (mI M19 a16 1)) 1 X cdX3 i_X3_copyFrom_X3 (by decide) k_X3_copyFrom_f19 rfl dX3_copyFrom_10 ha16 hT20 rfl ?_
  refine g_putI (ci := 2) 1 X cdX3 i_X3_copyFrom_X3 (by decide) k_X3_copyFrom_f19 rfl dX3_copyFrom_13 rfl hT21 (Or.inl rfl) rfl rfl rfl ?_
  obtain ⟨M22, hM22, hf⟩ := lw_e hf
  rw [← hM22]
  have hT23 : mT M22 a16 = 3 := by rw [hM22]; exact hT20
  have hT24 : mT M22 x0 = 3 := by rw [hM22]; exact hT21
  refine g_aload_n X dX3_copyFrom_16 rfl rfl ?_
  refine g_aload_n X dX3_copyFrom_17 rfl rfl ?_
  refine g_get (ci := 2) (v := vI (mI M22 a16 2)) 2 X cdX3 i_X3_copyFrom_X3 (by decide) k_X3_copyFrom_f22 rfl dX3_copyFrom_18 ha16 hT23 rfl ?_
  refine g_putI (ci := 2) 2 X cdX3 i_X3_copyFrom_X3 (by decide) k_X3_copyFrom_f22 rfl dX3_copyFrom_21 rfl hT24 (Or.inl rfl) rfl rfl rfl ?_
  obtain ⟨M25, hM25, hf⟩ := lw_e hf
  rw [← hM25]
  have hT26 : mT M25 a16 = 3 := by rw [hM25]; exact hT23
  have hT27 : mT M25 x0 = 3 := by rw [hM25]; exact hT24
  refine g_iconst (v := (1 : Int32)) X dX3_copyFrom_24 (by decide) ?_
  refine g_istore_n (lv' := [(2, vI (1 : Int32)), (0, vR (some x0)), (1, vR x1)]) X dX3_copyFrom_25 rfl (by decide) rfl ?_
  refine g_sub (lvsub_of _ _ [1, 2, 0] rfl) ?_
  exact tl_X3_copyFrom_26 X hr _ _ _ _ _ hf hK
set_option maxHeartbeats 4000000 in
set_option maxRecDepth 100000 in
theorem m_X3_copyFrom (l : Launch) {D : va_G} {cy : Nat → ClassId} {B : Nat} {H0 : Heap} {Z : Nat → Nat} {M M1 : gMem} {x0 : Nat} {x1 : Option Nat} {r : Unit} (hf : f_X3_copyFrom M x0 x1 = some (r, M1)) : Met l yX3_copyFrom wsX3_copyFrom rX3_copyFrom (va_Pc (Value.ref x0 :: List.map gv [vR x1]) (gPre D cy B H0 (gSt Z B H0) M)) (gQ D cy B H0 none M1) 0 0 (gA B) := by
  refine Met.ofW (cc := cX3_copyFrom) (maxL := 3) (ret := none) (by decide) rfl ?_
  intro p e s m args below meth c s₁ Bd hml hv
  obtain ⟨rfl, hW, hKK, hFs⟩ := hv
  have X : gX p s m _ meth c D cy B (gSt Z B H0) RX3 cX3_copyFrom wsX3_copyFrom 3 := ⟨Bd.exec, Bd.bytes, atoms_spec (ws := wsX3_copyFrom) Bd.pre, findClass_of_methodNamed Bd.named, hml, hKK, by rw [hW.1]; exact hW.2.1, Bd.notSynchronized, hFs⟩
  have hr := Bd.returns
  rcases x1 with _ | x1
  · have hl := lv_entry ([.ref x0, .null]) (n := 3) (Nat.le_of_ble_eq_true rfl)
    show W p l e rX3_copyFrom s m _ below meth c s.heap [] 0 0 _ (entryFrame m ([.ref x0, .null] : List Value).toArray 3)
    rw [lg_entry_eq]
    generalize (lg_sl ([.ref x0, .null]) ++ List.replicate (3 - (lg_sl ([.ref x0, .null])).length) Slot.unset).toArray = ls at hl ⊢
    have hl : lv_has ls 3 (List.map gq [(0, vR (some x0)), (1, vR none)]) := hl
    exact t_X3_copyFrom_0 X hr _ _ _ _ hf rfl s.heap [] ls hW va_S.rf (lv_has_sub hl (lvsub_of _ _ [0, 1] rfl))
  · have hl := lv_entry ([.ref x0, .ref x1]) (n := 3) (Nat.le_of_ble_eq_true rfl)
    show W p l e rX3_copyFrom s m _ below meth c s.heap [] 0 0 _ (entryFrame m ([.ref x0, .ref x1] : List Value).toArray 3)
    rw [lg_entry_eq]
    generalize (lg_sl ([.ref x0, .ref x1]) ++ List.replicate (3 - (lg_sl ([.ref x0, .ref x1])).length) Slot.unset).toArray = ls at hl ⊢
    have hl : lv_has ls 3 (List.map gq [(0, vR (some x0)), (1, vR (some x1))]) := hl
    exact t_X3_copyFrom_0 X hr _ _ _ _ hf rfl s.heap [] ls hW va_S.rf (lv_has_sub hl (lvsub_of _ _ [0, 1] rfl))
/-! ## TideLots$Fisher.tear()V -/
theorem dX1_tear_0 : decode cX1_tear 0 = .ok (.aload_n 0, 1) := by decide +kernel
theorem dX1_tear_1 : decode cX1_tear 1 = .ok (.aload_n 0, 1) := by decide +kernel
theorem dX1_tear_2 : decode cX1_tear 2 = .ok (.getfield 22, 3) := by decide +kernel
theorem dX1_tear_5 : decode cX1_tear 5 = .ok (.iconst 1, 1) := by decide +kernel
theorem dX1_tear_6 : decode cX1_tear 6 = .ok (.iadd, 1) := by decide +kernel
theorem dX1_tear_7 : decode cX1_tear 7 = .ok (.bipush 6, 2) := by decide +kernel
theorem dX1_tear_9 : decode cX1_tear 9 = .ok (.invokestatic 47, 3) := by decide +kernel
theorem dX1_tear_12 : decode cX1_tear 12 = .ok (.putfield 22, 3) := by decide +kernel
theorem dX1_tear_15 : decode cX1_tear 15 = .ok (.aload_n 0, 1) := by decide +kernel
theorem dX1_tear_16 : decode cX1_tear 16 = .ok (.dup, 1) := by decide +kernel
theorem dX1_tear_17 : decode cX1_tear 17 = .ok (.getfield 37, 3) := by decide +kernel
theorem dX1_tear_20 : decode cX1_tear 20 = .ok (.iconst 1, 1) := by decide +kernel
theorem dX1_tear_21 : decode cX1_tear 21 = .ok (.iadd, 1) := by decide +kernel
theorem dX1_tear_22 : decode cX1_tear 22 = .ok (.putfield 37, 3) := by decide +kernel
theorem dX1_tear_25 : decode cX1_tear 25 = .ok (.return_, 1) := by decide +kernel
theorem k_X1_tear_f22 : Cond.fieldLink RX1 22 "TideLots$Fisher" "mesh" "I" ∈ wsX1_tear := by decide +kernel
theorem i_X1_tear_X1 : ∀ w ∈ u_ws RX1 TX1 11, w ∈ wsX1_tear := by decide +kernel
theorem k_X1_tear_m47 : Cond.methodLink RX1 47 Lib.Math.min.name ∈ wsX1_tear := by decide +kernel
theorem k_X1_tear_mmins : Cond.static Lib.Math.min.name ∈ wsX1_tear := by decide +kernel
theorem k_X1_tear_mi : Cond.initialized "java/lang/Math" ∈ wsX1_tear := by decide +kernel
theorem k_X1_tear_mminc : Cond.code Lib.Math.min.name Lib.Math.min.code 2 (some .int) ∈ wsX1_tear := by decide +kernel
theorem k_X1_tear_f37 : Cond.fieldLink RX1 37 "TideLots$Fisher" "tears" "I" ∈ wsX1_tear := by decide +kernel
abbrev rX1_tear : Room := { frames := 1, cells := 0, slots := 0, locals := 14 }
noncomputable def b_X1_tear_0 (M : gMem) (x0 : Nat) : Option (Unit × gMem) :=
  ck (mT M x0 = 1) <| lw (wI M x0 1 ((imin (((mI M x0 1) + (1 : Int32))) ((6 : Int32))))) fun M2 => lw (wI M2 x0 7 (((mI M2 x0 7) + (1 : Int32)))) fun M4 => some ((), M4)
noncomputable def f_X1_tear (M : gMem) (x0 : Nat) : Option (Unit × gMem) :=
  b_X1_tear_0 M x0
set_option maxHeartbeats 4000000 in
set_option maxRecDepth 100000 in
theorem t_X1_tear_0 (X : gX p s m args meth c D cy B (gSt Z B H0) RX1 cX1_tear wsX1_tear 1) (hr : meth.sig.returnType = none) {Q : State → Prop} : ∀ (M : gMem) (x0 : Nat) (z : Unit × gMem), b_X1_tear_0 M x0 = some z → (fun (r : Unit × gMem) => Q = gMQ below D cy B H0 args s 0 0 none r.2) z → gGo p l e rX1_tear s m args below meth c D cy B H0 1 0 0 Q 0 [(0, vR (some x0))] [] M := by
  intro M x0 z hf hK
  unfold b_X1_tear_0 at hf
  refine g_aload_n X dX1_tear_0 rfl rfl ?_
  refine g_aload_n X dX1_tear_1 rfl rfl ?_
  obtain ⟨hT1, hf⟩ := ck_e hf
  refine g_get (ci := 0) (v := vI (mI M x0 1)) 1 X cdX1 i_X1_tear_X1 (by decide) k_X1_tear_f22 rfl dX1_tear_2 rfl hT1 rfl ?_
  refine g_iconst (v := (1 : Int32)) X dX1_tear_5 (by decide) ?_
  refine g_iadd X dX1_tear_6 ?_
  refine g_bipush (v := (6 : Int32)) X dX1_tear_7 (by decide) ?_
  refine g_min X k_X1_tear_m47 k_X1_tear_mmins k_X1_tear_mi k_X1_tear_mminc (Nat.le_of_ble_eq_true rfl) (Nat.le_of_ble_eq_true rfl) ⟨by decide, by decide⟩ dX1_tear_9 ?_
  refine g_putI (ci := 0) 1 X cdX1 i_X1_tear_X1 (by decide) k_X1_tear_f22 rfl dX1_tear_12 rfl hT1 (Or.inl rfl) rfl rfl rfl ?_
  obtain ⟨M2, hM2, hf⟩ := lw_e hf
  rw [← hM2]
  have hT3 : mT M2 x0 = 1 := by rw [hM2]; exact hT1
  refine g_aload_n X dX1_tear_15 rfl rfl ?_
  refine g_dup X dX1_tear_16 rfl ?_
  refine g_get (ci := 0) (v := vI (mI M2 x0 7)) 7 X cdX1 i_X1_tear_X1 (by decide) k_X1_tear_f37 rfl dX1_tear_17 rfl hT3 rfl ?_
  refine g_iconst (v := (1 : Int32)) X dX1_tear_20 (by decide) ?_
  refine g_iadd X dX1_tear_21 ?_
  refine g_putI (ci := 0) 7 X cdX1 i_X1_tear_X1 (by decide) k_X1_tear_f37 rfl dX1_tear_22 rfl hT3 (Or.inl rfl) rfl rfl rfl ?_
  obtain ⟨M4, hM4, hf⟩ := lw_e hf
  rw [← hM4]
  have hT5 : mT M4 x0 = 1 := by rw [hM4]; exact hT3
  cases hf
  refine g_eqQ hK ?_
  exact g_vret X hr dX1_tear_25
set_option maxHeartbeats 4000000 in
set_option maxRecDepth 100000 in
theorem m_X1_tear (l : Launch) {D : va_G} {cy : Nat → ClassId} {B : Nat} {H0 : Heap} {Z : Nat → Nat} {M M1 : gMem} {x0 : Nat} {r : Unit} (hf : f_X1_tear M x0 = some (r, M1)) : Met l yX1_tear wsX1_tear rX1_tear (va_Pc (Value.ref x0 :: List.map gv []) (gPre D cy B H0 (gSt Z B H0) M)) (gQ D cy B H0 none M1) 0 0 (gA B) := by
  refine Met.ofW (cc := cX1_tear) (maxL := 1) (ret := none) (by decide) rfl ?_
  intro p e s m args below meth c s₁ Bd hml hv
  obtain ⟨rfl, hW, hKK, hFs⟩ := hv
  have X : gX p s m _ meth c D cy B (gSt Z B H0) RX1 cX1_tear wsX1_tear 1 := ⟨Bd.exec, Bd.bytes, atoms_spec (ws := wsX1_tear) Bd.pre, findClass_of_methodNamed Bd.named, hml, hKK, by rw [hW.1]; exact hW.2.1, Bd.notSynchronized, hFs⟩
  have hr := Bd.returns
  have hl := lv_entry ([.ref x0]) (n := 1) (Nat.le_of_ble_eq_true rfl)
  show W p l e rX1_tear s m _ below meth c s.heap [] 0 0 _ (entryFrame m ([.ref x0] : List Value).toArray 1)
  rw [lg_entry_eq]
  generalize (lg_sl ([.ref x0]) ++ List.replicate (1 - (lg_sl ([.ref x0])).length) Slot.unset).toArray = ls at hl ⊢
  have hl : lv_has ls 1 (List.map gq [(0, vR (some x0))]) := hl
  exact t_X1_tear_0 X hr _ _ _ hf rfl s.heap [] ls hW va_S.rf (lv_has_sub hl (lvsub_of _ _ [0] rfl))
/-! ## TideLots$Fisher.copyFrom(LTideLots$Fisher;)V -/
theorem dX1_copyFrom_0 : decode cX1_copyFrom 0 = .ok (.aload_n 0, 1) := by decide +kernel
theorem dX1_copyFrom_1 : decode cX1_copyFrom 1 = .ok (.aload_n 1, 1) := by decide +kernel
theorem dX1_copyFrom_2 : decode cX1_copyFrom 2 = .ok (.getfield 19, 3) := by decide +kernel
theorem dX1_copyFrom_5 : decode cX1_copyFrom 5 = .ok (.putfield 19, 3) := by decide +kernel
theorem dX1_copyFrom_8 : decode cX1_copyFrom 8 = .ok (.aload_n 0, 1) := by decide +kernel
theorem dX1_copyFrom_9 : decode cX1_copyFrom 9 = .ok (.aload_n 1, 1) := by decide +kernel
theorem dX1_copyFrom_10 : decode cX1_copyFrom 10 = .ok (.getfield 22, 3) := by decide +kernel
theorem dX1_copyFrom_13 : decode cX1_copyFrom 13 = .ok (.putfield 22, 3) := by decide +kernel
theorem dX1_copyFrom_16 : decode cX1_copyFrom 16 = .ok (.aload_n 0, 1) := by decide +kernel
theorem dX1_copyFrom_17 : decode cX1_copyFrom 17 = .ok (.aload_n 1, 1) := by decide +kernel
theorem dX1_copyFrom_18 : decode cX1_copyFrom 18 = .ok (.getfield 25, 3) := by decide +kernel
theorem dX1_copyFrom_21 : decode cX1_copyFrom 21 = .ok (.putfield 25, 3) := by decide +kernel
theorem dX1_copyFrom_24 : decode cX1_copyFrom 24 = .ok (.aload_n 0, 1) := by decide +kernel
theorem dX1_copyFrom_25 : decode cX1_copyFrom 25 = .ok (.aload_n 1, 1) := by decide +kernel
theorem dX1_copyFrom_26 : decode cX1_copyFrom 26 = .ok (.getfield 28, 3) := by decide +kernel
theorem dX1_copyFrom_29 : decode cX1_copyFrom 29 = .ok (.putfield 28, 3) := by decide +kernel
theorem dX1_copyFrom_32 : decode cX1_copyFrom 32 = .ok (.aload_n 0, 1) := by decide +kernel
theorem dX1_copyFrom_33 : decode cX1_copyFrom 33 = .ok (.aload_n 1, 1) := by decide +kernel
theorem dX1_copyFrom_34 : decode cX1_copyFrom 34 = .ok (.getfield 31, 3) := by decide +kernel
theorem dX1_copyFrom_37 : decode cX1_copyFrom 37 = .ok (.putfield 31, 3) := by decide +kernel
theorem dX1_copyFrom_40 : decode cX1_copyFrom 40 = .ok (.aload_n 0, 1) := by decide +kernel
theorem dX1_copyFrom_41 : decode cX1_copyFrom 41 = .ok (.aload_n 1, 1) := by decide +kernel
theorem dX1_copyFrom_42 : decode cX1_copyFrom 42 = .ok (.getfield 34, 3) := by decide +kernel
theorem dX1_copyFrom_45 : decode cX1_copyFrom 45 = .ok (.putfield 34, 3) := by decide +kernel
theorem dX1_copyFrom_48 : decode cX1_copyFrom 48 = .ok (.aload_n 0, 1) := by decide +kernel
theorem dX1_copyFrom_49 : decode cX1_copyFrom 49 = .ok (.aload_n 1, 1) := by decide +kernel
theorem dX1_copyFrom_50 : decode cX1_copyFrom 50 = .ok (.getfield 9, 3) := by decide +kernel
theorem dX1_copyFrom_53 : decode cX1_copyFrom 53 = .ok (.putfield 9, 3) := by decide +kernel
theorem dX1_copyFrom_56 : decode cX1_copyFrom 56 = .ok (.aload_n 0, 1) := by decide +kernel
theorem dX1_copyFrom_57 : decode cX1_copyFrom 57 = .ok (.aload_n 1, 1) := by decide +kernel
theorem dX1_copyFrom_58 : decode cX1_copyFrom 58 = .ok (.getfield 37, 3) := by decide +kernel
theorem dX1_copyFrom_61 : decode cX1_copyFrom 61 = .ok (.putfield 37, 3) := by decide +kernel
theorem dX1_copyFrom_64 : decode cX1_copyFrom 64 = .ok (.aload_n 0, 1) := by decide +kernel
theorem dX1_copyFrom_65 : decode cX1_copyFrom 65 = .ok (.aload_n 1, 1) := by decide +kernel
theorem dX1_copyFrom_66 : decode cX1_copyFrom 66 = .ok (.getfield 40, 3) := by decide +kernel
theorem dX1_copyFrom_69 : decode cX1_copyFrom 69 = .ok (.putfield 40, 3) := by decide +kernel
theorem dX1_copyFrom_72 : decode cX1_copyFrom 72 = .ok (.aload_n 0, 1) := by decide +kernel
theorem dX1_copyFrom_73 : decode cX1_copyFrom 73 = .ok (.aload_n 1, 1) := by decide +kernel
theorem dX1_copyFrom_74 : decode cX1_copyFrom 74 = .ok (.getfield 43, 3) := by decide +kernel
theorem dX1_copyFrom_77 : decode cX1_copyFrom 77 = .ok (.putfield 43, 3) := by decide +kernel
theorem dX1_copyFrom_80 : decode cX1_copyFrom 80 = .ok (.iconst 0, 1) := by decide +kernel
theorem dX1_copyFrom_81 : decode cX1_copyFrom 81 = .ok (.istore_n 2, 1) := by decide +kernel
theorem dX1_copyFrom_82 : decode cX1_copyFrom 82 = .ok (.iload_n 2, 1) := by decide +kernel
theorem dX1_copyFrom_83 : decode cX1_copyFrom 83 = .ok (.bipush 8, 2) := by decide +kernel
theorem dX1_copyFrom_85 : decode cX1_copyFrom 85 = .ok (.if_icmp .ge 21, 3) := by decide +kernel
theorem dX1_copyFrom_88 : decode cX1_copyFrom 88 = .ok (.aload_n 0, 1) := by decide +kernel
theorem dX1_copyFrom_89 : decode cX1_copyFrom 89 = .ok (.getfield 15, 3) := by decide +kernel
theorem dX1_copyFrom_92 : decode cX1_copyFrom 92 = .ok (.iload_n 2, 1) := by decide +kernel
theorem dX1_copyFrom_93 : decode cX1_copyFrom 93 = .ok (.aload_n 1, 1) := by decide +kernel
theorem dX1_copyFrom_94 : decode cX1_copyFrom 94 = .ok (.getfield 15, 3) := by decide +kernel
theorem dX1_copyFrom_97 : decode cX1_copyFrom 97 = .ok (.iload_n 2, 1) := by decide +kernel
theorem dX1_copyFrom_98 : decode cX1_copyFrom 98 = .ok (.iaload, 1) := by decide +kernel
theorem dX1_copyFrom_99 : decode cX1_copyFrom 99 = .ok (.iastore, 1) := by decide +kernel
theorem dX1_copyFrom_100 : decode cX1_copyFrom 100 = .ok (.iinc 2 1, 3) := by decide +kernel
theorem dX1_copyFrom_103 : decode cX1_copyFrom 103 = .ok (.goto (-21), 3) := by decide +kernel
theorem dX1_copyFrom_106 : decode cX1_copyFrom 106 = .ok (.return_, 1) := by decide +kernel
theorem k_X1_copyFrom_f15 : Cond.fieldLink RX1 15 "TideLots$Fisher" "took" "[I" ∈ wsX1_copyFrom := by decide +kernel
theorem i_X1_copyFrom_X1 : ∀ w ∈ u_ws RX1 TX1 11, w ∈ wsX1_copyFrom := by decide +kernel
theorem k_X1_copyFrom_f19 : Cond.fieldLink RX1 19 "TideLots$Fisher" "toldMesh" "I" ∈ wsX1_copyFrom := by decide +kernel
theorem k_X1_copyFrom_f22 : Cond.fieldLink RX1 22 "TideLots$Fisher" "mesh" "I" ∈ wsX1_copyFrom := by decide +kernel
theorem k_X1_copyFrom_f25 : Cond.fieldLink RX1 25 "TideLots$Fisher" "net" "I" ∈ wsX1_copyFrom := by decide +kernel
theorem k_X1_copyFrom_f28 : Cond.fieldLink RX1 28 "TideLots$Fisher" "hold" "I" ∈ wsX1_copyFrom := by decide +kernel
theorem k_X1_copyFrom_f31 : Cond.fieldLink RX1 31 "TideLots$Fisher" "store" "I" ∈ wsX1_copyFrom := by decide +kernel
theorem k_X1_copyFrom_f34 : Cond.fieldLink RX1 34 "TideLots$Fisher" "latest" "I" ∈ wsX1_copyFrom := by decide +kernel
theorem k_X1_copyFrom_f9 : Cond.fieldLink RX1 9 "TideLots$Fisher" "place" "I" ∈ wsX1_copyFrom := by decide +kernel
theorem k_X1_copyFrom_f37 : Cond.fieldLink RX1 37 "TideLots$Fisher" "tears" "I" ∈ wsX1_copyFrom := by decide +kernel
theorem k_X1_copyFrom_f40 : Cond.fieldLink RX1 40 "TideLots$Fisher" "caught" "I" ∈ wsX1_copyFrom := by decide +kernel
theorem k_X1_copyFrom_f43 : Cond.fieldLink RX1 43 "TideLots$Fisher" "isCheat" "Z" ∈ wsX1_copyFrom := by decide +kernel
abbrev rX1_copyFrom : Room := { frames := 0, cells := 0, slots := 0, locals := 0 }
noncomputable def bb_X1_copyFrom_82 (M : gMem) (x0 : Nat) (x1 : Option Nat) (x2 : Int32) : Option ((gMem × Int32) ⊕ (Unit × gMem)) :=
  (if (8 : Int32) ≤ x2 then oI (some ((), M)) else ck (mT M x0 = 1) <| dr x1 fun a3 => ck (mT M a3 = 1) <| dr ((mR M a3 10)) fun a5 => ck (mT M a5 = 20) <| ck (inb x2 (mL M a5)) <| dr ((mR M x0 10)) fun a8 => ck (mT M a8 = 20) <| ck (inb x2 (mL M a8)) <| lw (wI M a8 x2.toNatClampNeg ((mI M a5 x2.toNatClampNeg))) fun M11 => some (.inl (M11, (x2 + (1 : Int32)))))
noncomputable def lp_X1_copyFrom_82 (M : gMem) (x0 : Nat) (x1 : Option Nat) (x2 : Int32) : Option (Unit × gMem) :=
  lp (fun (q : gMem × Int32) => bb_X1_copyFrom_82 q.1 x0 x1 q.2) (M, x2)
noncomputable def b_X1_copyFrom_0 (M : gMem) (x0 : Nat) (x1 : Option Nat) : Option (Unit × gMem) :=
  dr x1 fun a16 => ck (mT M a16 = 1) <| ck (mT M x0 = 1) <| lw (wI M x0 0 ((mI M a16 0))) fun M19 => lw (wI M19 x0 1 ((mI M19 a16 1))) fun M22 => lw (wI M22 x0 2 ((mI M22 a16 2))) fun M25 => lw (wI M25 x0 3 ((mI M25 a16 3))) fun M28 => lw (wI M28 x0 4 ((mI M28 a16 4))) fun M31 => lw (wI M31 x0 5 ((mI M31 a16 5))) fun M34 => lw (wI M34 x0 6 ((mI M34 a16 6))) fun M37 => lw (wI M37 x0 7 ((mI M37 a16 7))) fun M40 => lw (wI M40 x0 8 ((mI M40 a16 8))) fun M43 => ck ((mI M43 a16 9) = 0 ∨ (mI M43 a16 9) = 1) <| lw (wI M43 x0 9 ((mI M43 a16 9))) fun M47 => lp_X1_copyFrom_82 M47 x0 x1 ((0 : Int32))
noncomputable def f_X1_copyFrom (M : gMem) (x0 : Nat) (x1 : Option Nat) : Option (Unit × gMem) :=
  b_X1_copyFrom_0 M x0 x1
set_option maxHeartbeats 4000000 in
set_option maxRecDepth 100000 in
theorem tb_X1_copyFrom_82 (X : gX p s m args meth c D cy B (gSt Z B H0) RX1 cX1_copyFrom wsX1_copyFrom 3) (hr : meth.sig.returnType = none) {Q : State → Prop} : ∀ (M : gMem) (x0 : Nat) (x1 : Option Nat) (x2 : Int32) (z : (gMem × Int32) ⊕ (Unit × gMem)), bb_X1_copyFrom_82 M x0 x1 x2 = some z → (Sum.elim (fun (q : gMem × Int32) => gGo p l e rX1_copyFrom s m args below meth c D cy B H0 3 0 0 Q 82 [(0, vR (some x0)), (1, vR x1), (2, vI q.2)] [] q.1) (fun (r : Unit × gMem) => Q = gMQ below D cy B H0 args s 0 0 none r.2)) z → gGo p l e rX1_copyFrom s m args below meth c D cy B H0 3 0 0 Q 82 [(0, vR (some x0)), (1, vR x1), (2, vI x2)] [] M := by
  intro M x0 x1 x2 z hf hK
  unfold bb_X1_copyFrom_82 at hf
  refine g_iload_n X dX1_copyFrom_82 rfl rfl ?_
  refine g_bipush (v := (8 : Int32)) X dX1_copyFrom_83 (by decide) ?_
  refine g_icmp_ge (tgt := 106) X dX1_copyFrom_85 (by decide) (fun hc => ?_) (fun hc => ?_)
  · have hf := ife_t hc hf
    obtain ⟨w1, hw1, hz1⟩ := oI_e hf
    subst hz1
    have hf := hw1
    cases hf
    refine g_eqQ hK ?_
    exact g_vret X hr dX1_copyFrom_106
  · have hf := ife_f hc hf
    refine g_aload_n X dX1_copyFrom_88 rfl rfl ?_
    obtain ⟨hT2, hf⟩ := ck_e hf
    refine g_get (ci := 0) (v := vR (mR M x0 10)) 10 X cdX1 i_X1_copyFrom_X1 (by decide) k_X1_copyFrom_f15 rfl dX1_copyFrom_89 rfl hT2 rfl ?_
    refine g_iload_n X dX1_copyFrom_92 rfl rfl ?_
    refine g_aload_n X dX1_copyFrom_93 rfl rfl ?_
    obtain ⟨a3, ha3, hf⟩ := dr_e hf
    obtain ⟨hT4, hf⟩ := ck_e hf
    refine g_get (ci := 0) (v := vR (mR M a3 10)) 10 X cdX1 i_X1_copyFrom_X1 (by decide) k_X1_copyFrom_f15 rfl dX1_copyFrom_94 ha3 hT4 rfl ?_
    refine g_iload_n X dX1_copyFrom_97 rfl rfl ?_
    obtain ⟨a5, ha5, hf⟩ := dr_e hf
    obtain ⟨hT6, hf⟩ := ck_e hf
    obtain ⟨hg7, hf⟩ := ck_e hf
    refine g_iald X dX1_copyFrom_98 ha5 hT6 hg7 ?_
    obtain ⟨a8, ha8, hf⟩ := dr_e hf
    obtain ⟨hT9, hf⟩ := ck_e hf
    obtain ⟨hg10, hf⟩ := ck_e hf
    refine g_iast X dX1_copyFrom_99 ha8 hT9 hg10 ?_
    obtain ⟨M11, hM11, hf⟩ := lw_e hf
    rw [← hM11]
    have hT12 : mT M11 x0 = 1 := by rw [hM11]; exact hT2
    have hT13 : mT M11 a3 = 1 := by rw [hM11]; exact hT4
    have hT14 : mT M11 a5 = 20 := by rw [hM11]; exact hT6
    have hT15 : mT M11 a8 = 20 := by rw [hM11]; exact hT9
    refine g_iinc (v := (1 : Int32)) (lv' := [(2, vI (x2 + (1 : Int32))), (0, vR (some x0)), (1, vR x1)]) X dX1_copyFrom_100 rfl (by decide) (by decide) rfl ?_
    refine g_goto (tgt := 82) X dX1_copyFrom_103 (by decide) ?_
    cases hf
    refine g_sub (lvsub_of _ _ [1, 2, 0] rfl) ?_
    exact hK
set_option maxHeartbeats 4000000 in
set_option maxRecDepth 100000 in
theorem tl_X1_copyFrom_82 (X : gX p s m args meth c D cy B (gSt Z B H0) RX1 cX1_copyFrom wsX1_copyFrom 3) (hr : meth.sig.returnType = none) {Q : State → Prop} : ∀ (M : gMem) (x0 : Nat) (x1 : Option Nat) (x2 : Int32) (z : Unit × gMem), lp_X1_copyFrom_82 M x0 x1 x2 = some z → (fun (r : Unit × gMem) => Q = gMQ below D cy B H0 args s 0 0 none r.2) z → gGo p l e rX1_copyFrom s m args below meth c D cy B H0 3 0 0 Q 82 [(0, vR (some x0)), (1, vR x1), (2, vI x2)] [] M := by
  intro M x0 x1 x2 z hf hK
  refine lp_ind (P := (fun (q : gMem × Int32) (z : Unit × gMem) => (fun (r : Unit × gMem) => Q = gMQ below D cy B H0 args s 0 0 none r.2) z → gGo p l e rX1_copyFrom s m args below meth c D cy B H0 3 0 0 Q 82 [(0, vR (some x0)), (1, vR x1), (2, vI q.2)] [] q.1)) (fun q z hq => ?_) _ _ hf hK
  intro hK
  obtain ⟨w, hw, hm⟩ := hq
  refine tb_X1_copyFrom_82 X hr _ _ _ _ w hw ?_
  cases w with
  | inl a => exact hm hK
  | inr b => cases hm; exact hK
set_option maxHeartbeats 4000000 in
set_option maxRecDepth 100000 in
theorem t_X1_copyFrom_0 (X : gX p s m args meth c D cy B (gSt Z B H0) RX1 cX1_copyFrom wsX1_copyFrom 3) (hr : meth.sig.returnType = none) {Q : State → Prop} : ∀ (M : gMem) (x0 : Nat) (x1 : Option Nat) (z : Unit × gMem), b_X1_copyFrom_0 M x0 x1 = some z → (fun (r : Unit × gMem) => Q = gMQ below D cy B H0 args s 0 0 none r.2) z → gGo p l e rX1_copyFrom s m args below meth c D cy B H0 3 0 0 Q 0 [(0, vR (some x0)), (1, vR x1)] [] M := by
  intro M x0 x1 z hf hK
  unfold b_X1_copyFrom_0 at hf
  refine g_aload_n X dX1_copyFrom_0 rfl rfl ?_
  refine g_aload_n X dX1_copyFrom_1 rfl rfl ?_
  obtain ⟨a16, ha16, hf⟩ := dr_e hf
  obtain ⟨hT17, hf⟩ := ck_e hf
  refine g_get (ci := 0) (v := vI (mI M a16 0)) 0 X cdX1 i_X1_copyFrom_X1 (by decide) k_X1_copyFrom_f19 rfl dX1_copyFrom_2 ha16 hT17 rfl ?_
  obtain ⟨hT18, hf⟩ := ck_e hf
  refine g_putI (ci := 0) 0 X cdX1 i_X1_copyFrom_X1 (by decide) k_X1_copyFrom_f19 rfl dX1_copyFrom_5 rfl hT18 (Or.inl rfl) rfl rfl rfl ?_
  obtain ⟨M19, hM19, hf⟩ := lw_e hf
  rw [← hM19]
  have hT20 : mT M19 a16 = 1 := by rw [hM19]; exact hT17
  have hT21 : mT M19 x0 = 1 := by rw [hM19]; exact hT18
  refine g_aload_n X dX1_copyFrom_8 rfl rfl ?_
  refine g_aload_n X dX1_copyFrom_9 rfl rfl ?_
  refine g_get (ci := 0) (v := vI (mI M19 a16 1)) 1 X cdX1 i_X1_copyFrom_X1 (by decide) k_X1_copyFrom_f22 rfl dX1_copyFrom_10 ha16 hT20 rfl ?_
  refine g_putI (ci := 0) 1 X cdX1 i_X1_copyFrom_X1 (by decide) k_X1_copyFrom_f22 rfl dX1_copyFrom_13 rfl hT21 (Or.inl rfl) rfl rfl rfl ?_
  obtain ⟨M22, hM22, hf⟩ := lw_e hf
  rw [← hM22]
  have hT23 : mT M22 a16 = 1 := by rw [hM22]; exact hT20
  have hT24 : mT M22 x0 = 1 := by rw [hM22]; exact hT21
  refine g_aload_n X dX1_copyFrom_16 rfl rfl ?_
  refine g_aload_n X dX1_copyFrom_17 rfl rfl ?_
  refine g_get (ci := 0) (v := vI (mI M22 a16 2)) 2 X cdX1 i_X1_copyFrom_X1 (by decide) k_X1_copyFrom_f25 rfl dX1_copyFrom_18 ha16 hT23 rfl ?_
  refine g_putI (ci := 0) 2 X cdX1 i_X1_copyFrom_X1 (by decide) k_X1_copyFrom_f25 rfl dX1_copyFrom_21 rfl hT24 (Or.inl rfl) rfl rfl rfl ?_
  obtain ⟨M25, hM25, hf⟩ := lw_e hf
  rw [← hM25]
  have hT26 : mT M25 a16 = 1 := by rw [hM25]; exact hT23
  have hT27 : mT M25 x0 = 1 := by rw [hM25]; exact hT24
  refine g_aload_n X dX1_copyFrom_24 rfl rfl ?_
  refine g_aload_n X dX1_copyFrom_25 rfl rfl ?_
  refine g_get (ci := 0) (v := vI (mI M25 a16 3)) 3 X cdX1 i_X1_copyFrom_X1 (by decide) k_X1_copyFrom_f28 rfl dX1_copyFrom_26 ha16 hT26 rfl ?_
  refine g_putI (ci := 0) 3 X cdX1 i_X1_copyFrom_X1 (by decide) k_X1_copyFrom_f28 rfl dX1_copyFrom_29 rfl hT27 (Or.inl rfl) rfl rfl rfl ?_
  obtain ⟨M28, hM28, hf⟩ := lw_e hf
  rw [← hM28]
  have hT29 : mT M28 a16 = 1 := by rw [hM28]; exact hT26
  have hT30 : mT M28 x0 = 1 := by rw [hM28]; exact hT27
  refine g_aload_n X dX1_copyFrom_32 rfl rfl ?_
  refine g_aload_n X dX1_copyFrom_33 rfl rfl ?_
  refine g_get (ci := 0) (v := vI (mI M28 a16 4)) 4 X cdX1 i_X1_copyFrom_X1 (by decide) k_X1_copyFrom_f31 rfl dX1_copyFrom_34 ha16 hT29 rfl ?_
  refine g_putI (ci := 0) 4 X cdX1 i_X1_copyFrom_X1 (by decide) k_X1_copyFrom_f31 rfl dX1_copyFrom_37 rfl hT30 (Or.inl rfl) rfl rfl rfl ?_
  obtain ⟨M31, hM31, hf⟩ := lw_e hf
  rw [← hM31]
  have hT32 : mT M31 a16 = 1 := by rw [hM31]; exact hT29
  have hT33 : mT M31 x0 = 1 := by rw [hM31]; exact hT30
  refine g_aload_n X dX1_copyFrom_40 rfl rfl ?_
  refine g_aload_n X dX1_copyFrom_41 rfl rfl ?_
  refine g_get (ci := 0) (v := vI (mI M31 a16 5)) 5 X cdX1 i_X1_copyFrom_X1 (by decide) k_X1_copyFrom_f34 rfl dX1_copyFrom_42 ha16 hT32 rfl ?_
  refine g_putI (ci := 0) 5 X cdX1 i_X1_copyFrom_X1 (by decide) k_X1_copyFrom_f34 rfl dX1_copyFrom_45 rfl hT33 (Or.inl rfl) rfl rfl rfl ?_
  obtain ⟨M34, hM34, hf⟩ := lw_e hf
  rw [← hM34]
  have hT35 : mT M34 a16 = 1 := by rw [hM34]; exact hT32
  have hT36 : mT M34 x0 = 1 := by rw [hM34]; exact hT33
  refine g_aload_n X dX1_copyFrom_48 rfl rfl ?_
  refine g_aload_n X dX1_copyFrom_49 rfl rfl ?_
  refine g_get (ci := 0) (v := vI (mI M34 a16 6)) 6 X cdX1 i_X1_copyFrom_X1 (by decide) k_X1_copyFrom_f9 rfl dX1_copyFrom_50 ha16 hT35 rfl ?_
  refine g_putI (ci := 0) 6 X cdX1 i_X1_copyFrom_X1 (by decide) k_X1_copyFrom_f9 rfl dX1_copyFrom_53 rfl hT36 (Or.inl rfl) rfl rfl rfl ?_
  obtain ⟨M37, hM37, hf⟩ := lw_e hf
  rw [← hM37]
  have hT38 : mT M37 a16 = 1 := by rw [hM37]; exact hT35
  have hT39 : mT M37 x0 = 1 := by rw [hM37]; exact hT36
  refine g_aload_n X dX1_copyFrom_56 rfl rfl ?_
  refine g_aload_n X dX1_copyFrom_57 rfl rfl ?_
  refine g_get (ci := 0) (v := vI (mI M37 a16 7)) 7 X cdX1 i_X1_copyFrom_X1 (by decide) k_X1_copyFrom_f37 rfl dX1_copyFrom_58 ha16 hT38 rfl ?_
  refine g_putI (ci := 0) 7 X cdX1 i_X1_copyFrom_X1 (by decide) k_X1_copyFrom_f37 rfl dX1_copyFrom_61 rfl hT39 (Or.inl rfl) rfl rfl rfl ?_
  obtain ⟨M40, hM40, hf⟩ := lw_e hf
  rw [← hM40]
  have hT41 : mT M40 a16 = 1 := by rw [hM40]; exact hT38
  have hT42 : mT M40 x0 = 1 := by rw [hM40]; exact hT39
  refine g_aload_n X dX1_copyFrom_64 rfl rfl ?_
  refine g_aload_n X dX1_copyFrom_65 rfl rfl ?_
  refine g_get (ci := 0) (v := vI (mI M40 a16 8)) 8 X cdX1 i_X1_copyFrom_X1 (by decide) k_X1_copyFrom_f40 rfl dX1_copyFrom_66 ha16 hT41 rfl ?_
  refine g_putI (ci := 0) 8 X cdX1 i_X1_copyFrom_X1 (by decide) k_X1_copyFrom_f40 rfl dX1_copyFrom_69 rfl hT42 (Or.inl rfl) rfl rfl rfl ?_
  obtain ⟨M43, hM43, hf⟩ := lw_e hf
  rw [← hM43]
  have hT44 : mT M43 a16 = 1 := by rw [hM43]; exact hT41
  have hT45 : mT M43 x0 = 1 := by rw [hM43]; exact hT42
  refine g_aload_n X dX1_copyFrom_72 rfl rfl ?_
  refine g_aload_n X dX1_copyFrom_73 rfl rfl ?_
  refine g_get (ci := 0) (v := vI (mI M43 a16 9)) 9 X cdX1 i_X1_copyFrom_X1 (by decide) k_X1_copyFrom_f43 rfl dX1_copyFrom_74 ha16 hT44 rfl ?_
  obtain ⟨hg46, hf⟩ := ck_e hf
  refine g_putI (ci := 0) 9 X cdX1 i_X1_copyFrom_X1 (by decide) k_X1_copyFrom_f43 rfl dX1_copyFrom_77 rfl hT45 (Or.inl rfl) (gnb hg46) (gfb hg46) rfl ?_
  obtain ⟨M47, hM47, hf⟩ := lw_e hf
  rw [← hM47]
  have hT48 : mT M47 a16 = 1 := by rw [hM47]; exact hT44
  have hT49 : mT M47 x0 = 1 := by rw [hM47]; exact hT45
  refine g_iconst (v := (0 : Int32)) X dX1_copyFrom_80 (by decide) ?_
  refine g_istore_n (lv' := [(2, vI (0 : Int32)), (0, vR (some x0)), (1, vR x1)]) X dX1_copyFrom_81 rfl (by decide) rfl ?_
  refine g_sub (lvsub_of _ _ [1, 2, 0] rfl) ?_
  exact tl_X1_copyFrom_82 X hr _ _ _ _ _ hf hK
set_option maxHeartbeats 4000000 in
set_option maxRecDepth 100000 in
theorem m_X1_copyFrom (l : Launch) {D : va_G} {cy : Nat → ClassId} {B : Nat} {H0 : Heap} {Z : Nat → Nat} {M M1 : gMem} {x0 : Nat} {x1 : Option Nat} {r : Unit} (hf : f_X1_copyFrom M x0 x1 = some (r, M1)) : Met l yX1_copyFrom wsX1_copyFrom rX1_copyFrom (va_Pc (Value.ref x0 :: List.map gv [vR x1]) (gPre D cy B H0 (gSt Z B H0) M)) (gQ D cy B H0 none M1) 0 0 (gA B) := by
  refine Met.ofW (cc := cX1_copyFrom) (maxL := 3) (ret := none) (by decide) rfl ?_
  intro p e s m args below meth c s₁ Bd hml hv
  obtain ⟨rfl, hW, hKK, hFs⟩ := hv
  have X : gX p s m _ meth c D cy B (gSt Z B H0) RX1 cX1_copyFrom wsX1_copyFrom 3 := ⟨Bd.exec, Bd.bytes, atoms_spec (ws := wsX1_copyFrom) Bd.pre, findClass_of_methodNamed Bd.named, hml, hKK, by rw [hW.1]; exact hW.2.1, Bd.notSynchronized, hFs⟩
  have hr := Bd.returns
  rcases x1 with _ | x1
  · have hl := lv_entry ([.ref x0, .null]) (n := 3) (Nat.le_of_ble_eq_true rfl)
    show W p l e rX1_copyFrom s m _ below meth c s.heap [] 0 0 _ (entryFrame m ([.ref x0, .null] : List Value).toArray 3)
    rw [lg_entry_eq]
    generalize (lg_sl ([.ref x0, .null]) ++ List.replicate (3 - (lg_sl ([.ref x0, .null])).length) Slot.unset).toArray = ls at hl ⊢
    have hl : lv_has ls 3 (List.map gq [(0, vR (some x0)), (1, vR none)]) := hl
    exact t_X1_copyFrom_0 X hr _ _ _ _ hf rfl s.heap [] ls hW va_S.rf (lv_has_sub hl (lvsub_of _ _ [0, 1] rfl))
  · have hl := lv_entry ([.ref x0, .ref x1]) (n := 3) (Nat.le_of_ble_eq_true rfl)
    show W p l e rX1_copyFrom s m _ below meth c s.heap [] 0 0 _ (entryFrame m ([.ref x0, .ref x1] : List Value).toArray 3)
    rw [lg_entry_eq]
    generalize (lg_sl ([.ref x0, .ref x1]) ++ List.replicate (3 - (lg_sl ([.ref x0, .ref x1])).length) Slot.unset).toArray = ls at hl ⊢
    have hl : lv_has ls 3 (List.map gq [(0, vR (some x0)), (1, vR (some x1))]) := hl
    exact t_X1_copyFrom_0 X hr _ _ _ _ hf rfl s.heap [] ls hW va_S.rf (lv_has_sub hl (lvsub_of _ _ [0, 1] rfl))
end
