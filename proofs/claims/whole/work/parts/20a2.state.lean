section
variable {p : Program} {l : Launch} {e : Env} {s : State} {m : MethodId} {args : Array Value} {below : List Frame} {meth : Method} {c : Code} {D : va_G} {cy : Nat → ClassId} {B : Nat} {H0 : Heap} {Z : Nat → Nat}
/-! ## TideLotsModel$State.grow(I)V -/
theorem dX12_grow_0 : decode cX12_grow 0 = .ok (.iconst 5, 1) := by decide +kernel
theorem dX12_grow_1 : decode cX12_grow 1 = .ok (.iload_n 1, 1) := by decide +kernel
theorem dX12_grow_2 : decode cX12_grow 2 = .ok (.imul, 1) := by decide +kernel
theorem dX12_grow_3 : decode cX12_grow 3 = .ok (.istore_n 2, 1) := by decide +kernel
theorem dX12_grow_4 : decode cX12_grow 4 = .ok (.iconst 3, 1) := by decide +kernel
theorem dX12_grow_5 : decode cX12_grow 5 = .ok (.istore_n 3, 1) := by decide +kernel
theorem dX12_grow_6 : decode cX12_grow 6 = .ok (.iload_n 3, 1) := by decide +kernel
theorem dX12_grow_7 : decode cX12_grow 7 = .ok (.ifCond .lt 62, 3) := by decide +kernel
theorem dX12_grow_10 : decode cX12_grow 10 = .ok (.aload_n 0, 1) := by decide +kernel
theorem dX12_grow_11 : decode cX12_grow 11 = .ok (.getfield 19, 3) := by decide +kernel
theorem dX12_grow_14 : decode cX12_grow 14 = .ok (.iload_n 2, 1) := by decide +kernel
theorem dX12_grow_15 : decode cX12_grow 15 = .ok (.iload_n 3, 1) := by decide +kernel
theorem dX12_grow_16 : decode cX12_grow 16 = .ok (.iadd, 1) := by decide +kernel
theorem dX12_grow_17 : decode cX12_grow 17 = .ok (.iaload, 1) := by decide +kernel
theorem dX12_grow_18 : decode cX12_grow 18 = .ok (.iconst 5, 1) := by decide +kernel
theorem dX12_grow_19 : decode cX12_grow 19 = .ok (.idiv, 1) := by decide +kernel
theorem dX12_grow_20 : decode cX12_grow 20 = .ok (.istore 4, 2) := by decide +kernel
theorem dX12_grow_22 : decode cX12_grow 22 = .ok (.aload_n 0, 1) := by decide +kernel
theorem dX12_grow_23 : decode cX12_grow 23 = .ok (.getfield 19, 3) := by decide +kernel
theorem dX12_grow_26 : decode cX12_grow 26 = .ok (.iload_n 2, 1) := by decide +kernel
theorem dX12_grow_27 : decode cX12_grow 27 = .ok (.iload_n 3, 1) := by decide +kernel
theorem dX12_grow_28 : decode cX12_grow 28 = .ok (.iadd, 1) := by decide +kernel
theorem dX12_grow_29 : decode cX12_grow 29 = .ok (.dup2, 1) := by decide +kernel
theorem dX12_grow_30 : decode cX12_grow 30 = .ok (.iaload, 1) := by decide +kernel
theorem dX12_grow_31 : decode cX12_grow 31 = .ok (.iload 4, 2) := by decide +kernel
theorem dX12_grow_33 : decode cX12_grow 33 = .ok (.isub, 1) := by decide +kernel
theorem dX12_grow_34 : decode cX12_grow 34 = .ok (.iastore, 1) := by decide +kernel
theorem dX12_grow_35 : decode cX12_grow 35 = .ok (.aload_n 0, 1) := by decide +kernel
theorem dX12_grow_36 : decode cX12_grow 36 = .ok (.getfield 19, 3) := by decide +kernel
theorem dX12_grow_39 : decode cX12_grow 39 = .ok (.iload_n 2, 1) := by decide +kernel
theorem dX12_grow_40 : decode cX12_grow 40 = .ok (.iload_n 3, 1) := by decide +kernel
theorem dX12_grow_41 : decode cX12_grow 41 = .ok (.iadd, 1) := by decide +kernel
theorem dX12_grow_42 : decode cX12_grow 42 = .ok (.iconst 1, 1) := by decide +kernel
theorem dX12_grow_43 : decode cX12_grow 43 = .ok (.iadd, 1) := by decide +kernel
theorem dX12_grow_44 : decode cX12_grow 44 = .ok (.bipush 99, 2) := by decide +kernel
theorem dX12_grow_46 : decode cX12_grow 46 = .ok (.aload_n 0, 1) := by decide +kernel
theorem dX12_grow_47 : decode cX12_grow 47 = .ok (.getfield 19, 3) := by decide +kernel
theorem dX12_grow_50 : decode cX12_grow 50 = .ok (.iload_n 2, 1) := by decide +kernel
theorem dX12_grow_51 : decode cX12_grow 51 = .ok (.iload_n 3, 1) := by decide +kernel
theorem dX12_grow_52 : decode cX12_grow 52 = .ok (.iadd, 1) := by decide +kernel
theorem dX12_grow_53 : decode cX12_grow 53 = .ok (.iconst 1, 1) := by decide +kernel
theorem dX12_grow_54 : decode cX12_grow 54 = .ok (.iadd, 1) := by decide +kernel
theorem dX12_grow_55 : decode cX12_grow 55 = .ok (.iaload, 1) := by decide +kernel
theorem dX12_grow_56 : decode cX12_grow 56 = .ok (.iload 4, 2) := by decide +kernel
theorem dX12_grow_58 : decode cX12_grow 58 = .ok (.iadd, 1) := by decide +kernel
theorem dX12_grow_59 : decode cX12_grow 59 = .ok (.invokestatic 96, 3) := by decide +kernel
theorem dX12_grow_62 : decode cX12_grow 62 = .ok (.iastore, 1) := by decide +kernel
theorem dX12_grow_63 : decode cX12_grow 63 = .ok (.iinc 3 (-1), 3) := by decide +kernel
theorem dX12_grow_66 : decode cX12_grow 66 = .ok (.goto (-60), 3) := by decide +kernel
theorem dX12_grow_69 : decode cX12_grow 69 = .ok (.aload_n 0, 1) := by decide +kernel
theorem dX12_grow_70 : decode cX12_grow 70 = .ok (.getfield 19, 3) := by decide +kernel
theorem dX12_grow_73 : decode cX12_grow 73 = .ok (.iload_n 2, 1) := by decide +kernel
theorem dX12_grow_74 : decode cX12_grow 74 = .ok (.bipush 99, 2) := by decide +kernel
theorem dX12_grow_76 : decode cX12_grow 76 = .ok (.aload_n 0, 1) := by decide +kernel
theorem dX12_grow_77 : decode cX12_grow 77 = .ok (.getfield 19, 3) := by decide +kernel
theorem dX12_grow_80 : decode cX12_grow 80 = .ok (.iload_n 2, 1) := by decide +kernel
theorem dX12_grow_81 : decode cX12_grow 81 = .ok (.iaload, 1) := by decide +kernel
theorem dX12_grow_82 : decode cX12_grow 82 = .ok (.aload_n 0, 1) := by decide +kernel
theorem dX12_grow_83 : decode cX12_grow 83 = .ok (.iload_n 1, 1) := by decide +kernel
theorem dX12_grow_84 : decode cX12_grow 84 = .ok (.invokevirtual 166, 3) := by decide +kernel
theorem dX12_grow_87 : decode cX12_grow 87 = .ok (.bipush 6, 2) := by decide +kernel
theorem dX12_grow_89 : decode cX12_grow 89 = .ok (.idiv, 1) := by decide +kernel
theorem dX12_grow_90 : decode cX12_grow 90 = .ok (.iadd, 1) := by decide +kernel
theorem dX12_grow_91 : decode cX12_grow 91 = .ok (.invokestatic 96, 3) := by decide +kernel
theorem dX12_grow_94 : decode cX12_grow 94 = .ok (.iastore, 1) := by decide +kernel
theorem dX12_grow_95 : decode cX12_grow 95 = .ok (.return_, 1) := by decide +kernel
set_option maxRecDepth 20000 in
theorem ggX12_grow_X12_fishAt : GoodIn wsX12_grow wsX12_fishAt := goodIn_r _ [10, 1, 11, 12, 13, 14, 15, 16, 17, 18, 19, 20, 21, 22, 23, 24, 25, 26, 27, 28, 29] (by decide +kernel) (by decide +kernel)
set_option maxRecDepth 20000 in
theorem gX12_grow_X12_fishAt : GoodIn wsX12_grow (wsV RX12 166 RX12 yX12_fishAt wsX12_fishAt) := goodIn_app (goodIn_of _ (by decide +kernel)) ggX12_grow_X12_fishAt
theorem k_X12_grow_f19 : Cond.fieldLink RX12 19 "TideLotsModel$State" "fish" "[I" ∈ wsX12_grow := by decide +kernel
theorem i_X12_grow_X12 : ∀ w ∈ u_ws RX12 TX12 19, w ∈ wsX12_grow := by decide +kernel
theorem k_X12_grow_m96 : Cond.methodLink RX12 96 Lib.Math.min.name ∈ wsX12_grow := by decide +kernel
theorem k_X12_grow_mmins : Cond.static Lib.Math.min.name ∈ wsX12_grow := by decide +kernel
theorem k_X12_grow_mi : Cond.initialized "java/lang/Math" ∈ wsX12_grow := by decide +kernel
theorem k_X12_grow_mminc : Cond.code Lib.Math.min.name Lib.Math.min.code 2 (some .int) ∈ wsX12_grow := by decide +kernel
abbrev rX12_grow : Room := { frames := 1, cells := 0, slots := 0, locals := 23 }
noncomputable def bb_X12_grow_6 (M : gMem) (x0 : Nat) (x1 : Int32) (x2 : Int32) (x3 : Int32) : Option ((gMem × Int32) ⊕ (Unit × gMem)) :=
  (if x3 < 0 then ck (mT M x0 = 11) <| dr ((mR M x0 2)) fun a2 => ck (mT M a2 = 20) <| ck (inb x2 (mL M a2)) <| bd (f_X12_fishAt M x0 x1) fun r5 M5 => ck (mT M5 a2 = 20) <| ck (inb x2 (mL M5 a2)) <| lw (wI M5 a2 x2.toNatClampNeg ((imin ((99 : Int32)) (((mI M a2 x2.toNatClampNeg) + (r5 / (6 : Int32))))))) fun M8 => oI (some ((), M8)) else ck (mT M x0 = 11) <| dr ((mR M x0 2)) fun a12 => ck (mT M a12 = 20) <| ck (inb (x2 + x3) (mL M a12)) <| ck (inb (x2 + x3) (mL M a12)) <| ck (inb (x2 + x3) (mL M a12)) <| lw (wI M a12 ((x2 + x3)).toNatClampNeg (((mI M a12 ((x2 + x3)).toNatClampNeg) - ((mI M a12 ((x2 + x3)).toNatClampNeg) / (5 : Int32))))) fun M17 => dr ((mR M17 x0 2)) fun a20 => ck (mT M17 a20 = 20) <| ck (inb ((x2 + x3) + (1 : Int32)) (mL M17 a20)) <| ck (inb ((x2 + x3) + (1 : Int32)) (mL M17 a20)) <| lw (wI M17 a20 (((x2 + x3) + (1 : Int32))).toNatClampNeg ((imin ((99 : Int32)) (((mI M17 a20 (((x2 + x3) + (1 : Int32))).toNatClampNeg) + ((mI M a12 ((x2 + x3)).toNatClampNeg) / (5 : Int32))))))) fun M24 => some (.inl (M24, (x3 + (-1 : Int32)))))
noncomputable def lp_X12_grow_6 (M : gMem) (x0 : Nat) (x1 : Int32) (x2 : Int32) (x3 : Int32) : Option (Unit × gMem) :=
  lp (fun (q : gMem × Int32) => bb_X12_grow_6 q.1 x0 x1 x2 q.2) (M, x3)
noncomputable def b_X12_grow_0 (M : gMem) (x0 : Nat) (x1 : Int32) : Option (Unit × gMem) :=
  lp_X12_grow_6 M x0 x1 (((5 : Int32) * x1)) ((3 : Int32))
noncomputable def f_X12_grow (M : gMem) (x0 : Nat) (x1 : Int32) : Option (Unit × gMem) :=
  b_X12_grow_0 M x0 x1
set_option maxHeartbeats 4000000 in
set_option maxRecDepth 100000 in
theorem tb_X12_grow_6 (X : gX p s m args meth c D cy B (gSt Z B H0) RX12 cX12_grow wsX12_grow 5) (hr : meth.sig.returnType = none) {Q : State → Prop} : ∀ (M : gMem) (x0 : Nat) (x1 : Int32) (x2 : Int32) (x3 : Int32) (z : (gMem × Int32) ⊕ (Unit × gMem)), bb_X12_grow_6 M x0 x1 x2 x3 = some z → (Sum.elim (fun (q : gMem × Int32) => gGo p l e rX12_grow s m args below meth c D cy B H0 5 0 0 Q 6 [(0, vR (some x0)), (1, vI x1), (2, vI x2), (3, vI q.2)] [] q.1) (fun (r : Unit × gMem) => Q = gMQ below D cy B H0 args s 0 0 none r.2)) z → gGo p l e rX12_grow s m args below meth c D cy B H0 5 0 0 Q 6 [(0, vR (some x0)), (1, vI x1), (2, vI x2), (3, vI x3)] [] M := by
  intro M x0 x1 x2 x3 z hf hK
  unfold bb_X12_grow_6 at hf
  refine g_iload_n X dX12_grow_6 rfl rfl ?_
  refine g_if_lt (tgt := 69) X dX12_grow_7 (by decide) (fun hc => ?_) (fun hc => ?_)
  · have hf := ife_t hc hf
    refine g_aload_n X dX12_grow_69 rfl rfl ?_
    obtain ⟨hT1, hf⟩ := ck_e hf
    refine g_get (ci := 10) (v := vR (mR M x0 2)) 2 X cdX12 i_X12_grow_X12 (by decide) k_X12_grow_f19 rfl dX12_grow_70 rfl hT1 rfl ?_
    refine g_iload_n X dX12_grow_73 rfl rfl ?_
    refine g_bipush (v := (99 : Int32)) X dX12_grow_74 (by decide) ?_
    refine g_aload_n X dX12_grow_76 rfl rfl ?_
    refine g_get (ci := 10) (v := vR (mR M x0 2)) 2 X cdX12 i_X12_grow_X12 (by decide) k_X12_grow_f19 rfl dX12_grow_77 rfl hT1 rfl ?_
    refine g_iload_n X dX12_grow_80 rfl rfl ?_
    obtain ⟨a2, ha2, hf⟩ := dr_e hf
    obtain ⟨hT3, hf⟩ := ck_e hf
    obtain ⟨hg4, hf⟩ := ck_e hf
    refine g_iald X dX12_grow_81 ha2 hT3 hg4 ?_
    refine g_aload_n X dX12_grow_82 rfl rfl ?_
    refine g_iload_n X dX12_grow_83 rfl rfl ?_
    obtain ⟨r5, M5, hq5, hf⟩ := bd_e hf
    refine g_callV (ci := 10) (b := x0) (As := [vI x1]) (st := [vI (mI M a2 x2.toNatClampNeg), vI (99 : Int32), vI x2, vR (mR M x0 2)]) (v := some (vI r5)) (M1 := M5) X (m_X12_fishAt l hq5) (cwV 1 X.2.2.1 gX12_grow_X12_fishAt rfl rfl rfl (by decide +kernel) ⟨Nat.le_of_ble_eq_true rfl, Nat.le_of_ble_eq_true rfl⟩) rfl rfl rfl hT1 (by decide) rfl (Nat.le_of_ble_eq_true rfl) dX12_grow_84 ⟨by decide, by decide⟩ ?_
    refine g_bipush (v := (6 : Int32)) X dX12_grow_87 (by decide) ?_
    refine g_idiv X dX12_grow_89 (by decide) ?_
    refine g_iadd X dX12_grow_90 ?_
    refine g_min X k_X12_grow_m96 k_X12_grow_mmins k_X12_grow_mi k_X12_grow_mminc (Nat.le_of_ble_eq_true rfl) (Nat.le_of_ble_eq_true rfl) ⟨by decide, by decide⟩ dX12_grow_91 ?_
    obtain ⟨hT6, hf⟩ := ck_e hf
    obtain ⟨hg7, hf⟩ := ck_e hf
    refine g_iast X dX12_grow_94 ha2 hT6 hg7 ?_
    obtain ⟨M8, hM8, hf⟩ := lw_e hf
    rw [← hM8]
    have hT9 : mT M8 a2 = 20 := by rw [hM8]; exact hT6
    obtain ⟨w10, hw10, hz10⟩ := oI_e hf
    subst hz10
    have hf := hw10
    cases hf
    refine g_eqQ hK ?_
    exact g_vret X hr dX12_grow_95
  · have hf := ife_f hc hf
    refine g_aload_n X dX12_grow_10 rfl rfl ?_
    obtain ⟨hT11, hf⟩ := ck_e hf
    refine g_get (ci := 10) (v := vR (mR M x0 2)) 2 X cdX12 i_X12_grow_X12 (by decide) k_X12_grow_f19 rfl dX12_grow_11 rfl hT11 rfl ?_
    refine g_iload_n X dX12_grow_14 rfl rfl ?_
    refine g_iload_n X dX12_grow_15 rfl rfl ?_
    refine g_iadd X dX12_grow_16 ?_
    obtain ⟨a12, ha12, hf⟩ := dr_e hf
    obtain ⟨hT13, hf⟩ := ck_e hf
    obtain ⟨hg14, hf⟩ := ck_e hf
    refine g_iald X dX12_grow_17 ha12 hT13 hg14 ?_
    refine g_iconst (v := (5 : Int32)) X dX12_grow_18 (by decide) ?_
    refine g_idiv X dX12_grow_19 (by decide) ?_
    refine g_istore (lv' := [(4, vI ((mI M a12 ((x2 + x3)).toNatClampNeg) / (5 : Int32))), (0, vR (some x0)), (1, vI x1), (2, vI x2), (3, vI x3)]) X dX12_grow_20 (by decide) rfl ?_
    refine g_aload_n X dX12_grow_22 rfl rfl ?_
    refine g_get (ci := 10) (v := vR (mR M x0 2)) 2 X cdX12 i_X12_grow_X12 (by decide) k_X12_grow_f19 rfl dX12_grow_23 rfl hT11 rfl ?_
    refine g_iload_n X dX12_grow_26 rfl rfl ?_
    refine g_iload_n X dX12_grow_27 rfl rfl ?_
    refine g_iadd X dX12_grow_28 ?_
    refine g_dup2 X dX12_grow_29 rfl rfl ?_
    obtain ⟨hg15, hf⟩ := ck_e hf
    refine g_iald X dX12_grow_30 ha12 hT13 hg15 ?_
    refine g_iload X dX12_grow_31 rfl ?_
    refine g_isub X dX12_grow_33 ?_
    obtain ⟨hg16, hf⟩ := ck_e hf
    refine g_iast X dX12_grow_34 ha12 hT13 hg16 ?_
    obtain ⟨M17, hM17, hf⟩ := lw_e hf
    rw [← hM17]
    have hT18 : mT M17 x0 = 11 := by rw [hM17]; exact hT11
    have hT19 : mT M17 a12 = 20 := by rw [hM17]; exact hT13
    refine g_aload_n X dX12_grow_35 rfl rfl ?_
    refine g_get (ci := 10) (v := vR (mR M17 x0 2)) 2 X cdX12 i_X12_grow_X12 (by decide) k_X12_grow_f19 rfl dX12_grow_36 rfl hT18 rfl ?_
    refine g_iload_n X dX12_grow_39 rfl rfl ?_
    refine g_iload_n X dX12_grow_40 rfl rfl ?_
    refine g_iadd X dX12_grow_41 ?_
    refine g_iconst (v := (1 : Int32)) X dX12_grow_42 (by decide) ?_
    refine g_iadd X dX12_grow_43 ?_
    refine g_bipush (v := (99 : Int32)) X dX12_grow_44 (by decide) ?_
    refine g_aload_n X dX12_grow_46 rfl rfl ?_
    refine g_get (ci := 10) (v := vR (mR M17 x0 2)) 2 X cdX12 i_X12_grow_X12 (by decide) k_X12_grow_f19 rfl dX12_grow_47 rfl hT18 rfl ?_
    refine g_iload_n X dX12_grow_50 rfl rfl ?_
    refine g_iload_n X dX12_grow_51 rfl rfl ?_
    refine g_iadd X dX12_grow_52 ?_
    refine g_iconst (v := (1 : Int32)) X dX12_grow_53 (by decide) ?_
    refine g_iadd X dX12_grow_54 ?_
    obtain ⟨a20, ha20, hf⟩ := dr_e hf
    obtain ⟨hT21, hf⟩ := ck_e hf
    obtain ⟨hg22, hf⟩ := ck_e hf
    refine g_iald X dX12_grow_55 ha20 hT21 hg22 ?_
    refine g_iload X dX12_grow_56 rfl ?_
    refine g_iadd X dX12_grow_58 ?_
    refine g_min X k_X12_grow_m96 k_X12_grow_mmins k_X12_grow_mi k_X12_grow_mminc (Nat.le_of_ble_eq_true rfl) (Nat.le_of_ble_eq_true rfl) ⟨by decide, by decide⟩ dX12_grow_59 ?_
    obtain ⟨hg23, hf⟩ := ck_e hf
    refine g_iast X dX12_grow_62 ha20 hT21 hg23 ?_
    obtain ⟨M24, hM24, hf⟩ := lw_e hf
    rw [← hM24]
    have hT25 : mT M24 x0 = 11 := by rw [hM24]; exact hT18
    have hT26 : mT M24 a12 = 20 := by rw [hM24]; exact hT19
    have hT27 : mT M24 a20 = 20 := by rw [hM24]; exact hT21
    refine g_iinc (v := (-1 : Int32)) (lv' := [(3, vI (x3 + (-1 : Int32))), (4, vI ((mI M a12 ((x2 + x3)).toNatClampNeg) / (5 : Int32))), (0, vR (some x0)), (1, vI x1), (2, vI x2)]) X dX12_grow_63 rfl (by decide) (by decide) rfl ?_
    refine g_goto (tgt := 6) X dX12_grow_66 (by decide) ?_
    cases hf
    refine g_sub (lvsub_of _ _ [2, 3, 4, 0] rfl) ?_
    exact hK
set_option maxHeartbeats 4000000 in
set_option maxRecDepth 100000 in
theorem tl_X12_grow_6 (X : gX p s m args meth c D cy B (gSt Z B H0) RX12 cX12_grow wsX12_grow 5) (hr : meth.sig.returnType = none) {Q : State → Prop} : ∀ (M : gMem) (x0 : Nat) (x1 : Int32) (x2 : Int32) (x3 : Int32) (z : Unit × gMem), lp_X12_grow_6 M x0 x1 x2 x3 = some z → (fun (r : Unit × gMem) => Q = gMQ below D cy B H0 args s 0 0 none r.2) z → gGo p l e rX12_grow s m args below meth c D cy B H0 5 0 0 Q 6 [(0, vR (some x0)), (1, vI x1), (2, vI x2), (3, vI x3)] [] M := by
  intro M x0 x1 x2 x3 z hf hK
  refine lp_ind (P := (fun (q : gMem × Int32) (z : Unit × gMem) => (fun (r : Unit × gMem) => Q = gMQ below D cy B H0 args s 0 0 none r.2) z → gGo p l e rX12_grow s m args below meth c D cy B H0 5 0 0 Q 6 [(0, vR (some x0)), (1, vI x1), (2, vI x2), (3, vI q.2)] [] q.1)) (fun q z hq => ?_) _ _ hf hK
  intro hK
  obtain ⟨w, hw, hm⟩ := hq
  refine tb_X12_grow_6 X hr _ _ _ _ _ w hw ?_
  cases w with
  | inl a => exact hm hK
  | inr b => cases hm; exact hK
set_option maxHeartbeats 4000000 in
set_option maxRecDepth 100000 in
theorem t_X12_grow_0 (X : gX p s m args meth c D cy B (gSt Z B H0) RX12 cX12_grow wsX12_grow 5) (hr : meth.sig.returnType = none) {Q : State → Prop} : ∀ (M : gMem) (x0 : Nat) (x1 : Int32) (z : Unit × gMem), b_X12_grow_0 M x0 x1 = some z → (fun (r : Unit × gMem) => Q = gMQ below D cy B H0 args s 0 0 none r.2) z → gGo p l e rX12_grow s m args below meth c D cy B H0 5 0 0 Q 0 [(0, vR (some x0)), (1, vI x1)] [] M := by
  intro M x0 x1 z hf hK
  unfold b_X12_grow_0 at hf
  refine g_iconst (v := (5 : Int32)) X dX12_grow_0 (by decide) ?_
  refine g_iload_n X dX12_grow_1 rfl rfl ?_
  refine g_imul X dX12_grow_2 ?_
  refine g_istore_n (lv' := [(2, vI ((5 : Int32) * x1)), (0, vR (some x0)), (1, vI x1)]) X dX12_grow_3 rfl (by decide) rfl ?_
  refine g_iconst (v := (3 : Int32)) X dX12_grow_4 (by decide) ?_
  refine g_istore_n (lv' := [(3, vI (3 : Int32)), (2, vI ((5 : Int32) * x1)), (0, vR (some x0)), (1, vI x1)]) X dX12_grow_5 rfl (by decide) rfl ?_
  refine g_sub (lvsub_of _ _ [2, 3, 1, 0] rfl) ?_
  exact tl_X12_grow_6 X hr _ _ _ _ _ _ hf hK
set_option maxHeartbeats 4000000 in
set_option maxRecDepth 100000 in
theorem m_X12_grow (l : Launch) {D : va_G} {cy : Nat → ClassId} {B : Nat} {H0 : Heap} {Z : Nat → Nat} {M M1 : gMem} {x0 : Nat} {x1 : Int32} {r : Unit} (hf : f_X12_grow M x0 x1 = some (r, M1)) : Met l yX12_grow wsX12_grow rX12_grow (va_Pc (Value.ref x0 :: List.map gv [vI x1]) (gPre D cy B H0 (gSt Z B H0) M)) (gQ D cy B H0 none M1) 0 0 (gA B) := by
  refine Met.ofW (cc := cX12_grow) (maxL := 5) (ret := none) (by decide) rfl ?_
  intro p e s m args below meth c s₁ Bd hml hv
  obtain ⟨rfl, hW, hKK, hFs⟩ := hv
  have X : gX p s m _ meth c D cy B (gSt Z B H0) RX12 cX12_grow wsX12_grow 5 := ⟨Bd.exec, Bd.bytes, atoms_spec (ws := wsX12_grow) Bd.pre, findClass_of_methodNamed Bd.named, hml, hKK, by rw [hW.1]; exact hW.2.1, Bd.notSynchronized, hFs⟩
  have hr := Bd.returns
  have hl := lv_entry ([.ref x0, .int x1]) (n := 5) (Nat.le_of_ble_eq_true rfl)
  show W p l e rX12_grow s m _ below meth c s.heap [] 0 0 _ (entryFrame m ([.ref x0, .int x1] : List Value).toArray 5)
  rw [lg_entry_eq]
  generalize (lg_sl ([.ref x0, .int x1]) ++ List.replicate (5 - (lg_sl ([.ref x0, .int x1])).length) Slot.unset).toArray = ls at hl ⊢
  have hl : lv_has ls 5 (List.map gq [(0, vR (some x0)), (1, vI x1)]) := hl
  exact t_X12_grow_0 X hr _ _ _ _ hf rfl s.heap [] ls hW va_S.rf (lv_has_sub hl (lvsub_of _ _ [0, 1] rfl))
/-! ## TideLotsModel$State.split(I)V -/
theorem dX12_split_0 : decode cX12_split 0 = .ok (.iconst 0, 1) := by decide +kernel
theorem dX12_split_1 : decode cX12_split 1 = .ok (.istore_n 2, 1) := by decide +kernel
theorem dX12_split_2 : decode cX12_split 2 = .ok (.iconst 0, 1) := by decide +kernel
theorem dX12_split_3 : decode cX12_split 3 = .ok (.istore_n 3, 1) := by decide +kernel
theorem dX12_split_4 : decode cX12_split 4 = .ok (.aload_n 0, 1) := by decide +kernel
theorem dX12_split_5 : decode cX12_split 5 = .ok (.getfield 3, 3) := by decide +kernel
theorem dX12_split_8 : decode cX12_split 8 = .ok (.getfield 81, 3) := by decide +kernel
theorem dX12_split_11 : decode cX12_split 11 = .ok (.getfield 160, 3) := by decide +kernel
theorem dX12_split_14 : decode cX12_split 14 = .ok (.iload_n 1, 1) := by decide +kernel
theorem dX12_split_15 : decode cX12_split 15 = .ok (.iaload, 1) := by decide +kernel
theorem dX12_split_16 : decode cX12_split 16 = .ok (.istore 4, 2) := by decide +kernel
theorem dX12_split_18 : decode cX12_split 18 = .ok (.iconst 0, 1) := by decide +kernel
theorem dX12_split_19 : decode cX12_split 19 = .ok (.istore 5, 2) := by decide +kernel
theorem dX12_split_21 : decode cX12_split 21 = .ok (.iload 5, 2) := by decide +kernel
theorem dX12_split_23 : decode cX12_split 23 = .ok (.iload 4, 2) := by decide +kernel
theorem dX12_split_25 : decode cX12_split 25 = .ok (.if_icmp .ge 88, 3) := by decide +kernel
theorem dX12_split_28 : decode cX12_split 28 = .ok (.aload_n 0, 1) := by decide +kernel
theorem dX12_split_29 : decode cX12_split 29 = .ok (.getfield 3, 3) := by decide +kernel
theorem dX12_split_32 : decode cX12_split 32 = .ok (.getfield 81, 3) := by decide +kernel
theorem dX12_split_35 : decode cX12_split 35 = .ok (.getfield 163, 3) := by decide +kernel
theorem dX12_split_38 : decode cX12_split 38 = .ok (.bipush 8, 2) := by decide +kernel
theorem dX12_split_40 : decode cX12_split 40 = .ok (.iload_n 1, 1) := by decide +kernel
theorem dX12_split_41 : decode cX12_split 41 = .ok (.imul, 1) := by decide +kernel
theorem dX12_split_42 : decode cX12_split 42 = .ok (.iload 5, 2) := by decide +kernel
theorem dX12_split_44 : decode cX12_split 44 = .ok (.iadd, 1) := by decide +kernel
theorem dX12_split_45 : decode cX12_split 45 = .ok (.iaload, 1) := by decide +kernel
theorem dX12_split_46 : decode cX12_split 46 = .ok (.istore 6, 2) := by decide +kernel
theorem dX12_split_48 : decode cX12_split 48 = .ok (.aload_n 0, 1) := by decide +kernel
theorem dX12_split_49 : decode cX12_split 49 = .ok (.getfield 44, 3) := by decide +kernel
theorem dX12_split_52 : decode cX12_split 52 = .ok (.iload 6, 2) := by decide +kernel
theorem dX12_split_54 : decode cX12_split 54 = .ok (.iaload, 1) := by decide +kernel
theorem dX12_split_55 : decode cX12_split 55 = .ok (.iconst 1, 1) := by decide +kernel
theorem dX12_split_56 : decode cX12_split 56 = .ok (.if_icmp .ne 15, 3) := by decide +kernel
theorem dX12_split_59 : decode cX12_split 59 = .ok (.aload_n 0, 1) := by decide +kernel
theorem dX12_split_60 : decode cX12_split 60 = .ok (.getfield 35, 3) := by decide +kernel
theorem dX12_split_63 : decode cX12_split 63 = .ok (.iload 6, 2) := by decide +kernel
theorem dX12_split_65 : decode cX12_split 65 = .ok (.iaload, 1) := by decide +kernel
theorem dX12_split_66 : decode cX12_split 66 = .ok (.iconst 2, 1) := by decide +kernel
theorem dX12_split_67 : decode cX12_split 67 = .ok (.idiv, 1) := by decide +kernel
theorem dX12_split_68 : decode cX12_split 68 = .ok (.goto 10, 3) := by decide +kernel
theorem dX12_split_71 : decode cX12_split 71 = .ok (.aload_n 0, 1) := by decide +kernel
theorem dX12_split_72 : decode cX12_split 72 = .ok (.getfield 35, 3) := by decide +kernel
theorem dX12_split_75 : decode cX12_split 75 = .ok (.iload 6, 2) := by decide +kernel
theorem dX12_split_77 : decode cX12_split 77 = .ok (.iaload, 1) := by decide +kernel
theorem dX12_split_78 : decode cX12_split 78 = .ok (.istore 7, 2) := by decide +kernel
theorem dX12_split_80 : decode cX12_split 80 = .ok (.iload_n 2, 1) := by decide +kernel
theorem dX12_split_81 : decode cX12_split 81 = .ok (.iload 7, 2) := by decide +kernel
theorem dX12_split_83 : decode cX12_split 83 = .ok (.iadd, 1) := by decide +kernel
theorem dX12_split_84 : decode cX12_split 84 = .ok (.istore_n 2, 1) := by decide +kernel
theorem dX12_split_85 : decode cX12_split 85 = .ok (.aload_n 0, 1) := by decide +kernel
theorem dX12_split_86 : decode cX12_split 86 = .ok (.getfield 35, 3) := by decide +kernel
theorem dX12_split_89 : decode cX12_split 89 = .ok (.iload 6, 2) := by decide +kernel
theorem dX12_split_91 : decode cX12_split 91 = .ok (.dup2, 1) := by decide +kernel
theorem dX12_split_92 : decode cX12_split 92 = .ok (.iaload, 1) := by decide +kernel
theorem dX12_split_93 : decode cX12_split 93 = .ok (.iload 7, 2) := by decide +kernel
theorem dX12_split_95 : decode cX12_split 95 = .ok (.isub, 1) := by decide +kernel
theorem dX12_split_96 : decode cX12_split 96 = .ok (.iastore, 1) := by decide +kernel
theorem dX12_split_97 : decode cX12_split 97 = .ok (.iload_n 3, 1) := by decide +kernel
theorem dX12_split_98 : decode cX12_split 98 = .ok (.aload_n 0, 1) := by decide +kernel
theorem dX12_split_99 : decode cX12_split 99 = .ok (.getfield 35, 3) := by decide +kernel
theorem dX12_split_102 : decode cX12_split 102 = .ok (.iload 6, 2) := by decide +kernel
theorem dX12_split_104 : decode cX12_split 104 = .ok (.iaload, 1) := by decide +kernel
theorem dX12_split_105 : decode cX12_split 105 = .ok (.iadd, 1) := by decide +kernel
theorem dX12_split_106 : decode cX12_split 106 = .ok (.istore_n 3, 1) := by decide +kernel
theorem dX12_split_107 : decode cX12_split 107 = .ok (.iinc 5 1, 3) := by decide +kernel
theorem dX12_split_110 : decode cX12_split 110 = .ok (.goto (-89), 3) := by decide +kernel
theorem dX12_split_113 : decode cX12_split 113 = .ok (.iconst 0, 1) := by decide +kernel
theorem dX12_split_114 : decode cX12_split 114 = .ok (.istore 5, 2) := by decide +kernel
theorem dX12_split_116 : decode cX12_split 116 = .ok (.iload 5, 2) := by decide +kernel
theorem dX12_split_118 : decode cX12_split 118 = .ok (.iload 4, 2) := by decide +kernel
theorem dX12_split_120 : decode cX12_split 120 = .ok (.if_icmp .ge 53, 3) := by decide +kernel
theorem dX12_split_123 : decode cX12_split 123 = .ok (.aload_n 0, 1) := by decide +kernel
theorem dX12_split_124 : decode cX12_split 124 = .ok (.getfield 35, 3) := by decide +kernel
theorem dX12_split_127 : decode cX12_split 127 = .ok (.aload_n 0, 1) := by decide +kernel
theorem dX12_split_128 : decode cX12_split 128 = .ok (.getfield 3, 3) := by decide +kernel
theorem dX12_split_131 : decode cX12_split 131 = .ok (.getfield 81, 3) := by decide +kernel
theorem dX12_split_134 : decode cX12_split 134 = .ok (.getfield 163, 3) := by decide +kernel
theorem dX12_split_137 : decode cX12_split 137 = .ok (.bipush 8, 2) := by decide +kernel
theorem dX12_split_139 : decode cX12_split 139 = .ok (.iload_n 1, 1) := by decide +kernel
theorem dX12_split_140 : decode cX12_split 140 = .ok (.imul, 1) := by decide +kernel
theorem dX12_split_141 : decode cX12_split 141 = .ok (.iload 5, 2) := by decide +kernel
theorem dX12_split_143 : decode cX12_split 143 = .ok (.iadd, 1) := by decide +kernel
theorem dX12_split_144 : decode cX12_split 144 = .ok (.iaload, 1) := by decide +kernel
theorem dX12_split_145 : decode cX12_split 145 = .ok (.dup2, 1) := by decide +kernel
theorem dX12_split_146 : decode cX12_split 146 = .ok (.iaload, 1) := by decide +kernel
theorem dX12_split_147 : decode cX12_split 147 = .ok (.iload_n 2, 1) := by decide +kernel
theorem dX12_split_148 : decode cX12_split 148 = .ok (.iload 4, 2) := by decide +kernel
theorem dX12_split_150 : decode cX12_split 150 = .ok (.idiv, 1) := by decide +kernel
theorem dX12_split_151 : decode cX12_split 151 = .ok (.iload 5, 2) := by decide +kernel
theorem dX12_split_153 : decode cX12_split 153 = .ok (.ifCond .ne 10, 3) := by decide +kernel
theorem dX12_split_156 : decode cX12_split 156 = .ok (.iload_n 2, 1) := by decide +kernel
theorem dX12_split_157 : decode cX12_split 157 = .ok (.iload 4, 2) := by decide +kernel
theorem dX12_split_159 : decode cX12_split 159 = .ok (.irem, 1) := by decide +kernel
theorem dX12_split_160 : decode cX12_split 160 = .ok (.goto 4, 3) := by decide +kernel
theorem dX12_split_163 : decode cX12_split 163 = .ok (.iconst 0, 1) := by decide +kernel
theorem dX12_split_164 : decode cX12_split 164 = .ok (.iadd, 1) := by decide +kernel
theorem dX12_split_165 : decode cX12_split 165 = .ok (.iadd, 1) := by decide +kernel
theorem dX12_split_166 : decode cX12_split 166 = .ok (.iastore, 1) := by decide +kernel
theorem dX12_split_167 : decode cX12_split 167 = .ok (.iinc 5 1, 3) := by decide +kernel
theorem dX12_split_170 : decode cX12_split 170 = .ok (.goto (-54), 3) := by decide +kernel
theorem dX12_split_173 : decode cX12_split 173 = .ok (.aload_n 0, 1) := by decide +kernel
theorem dX12_split_174 : decode cX12_split 174 = .ok (.getfield 47, 3) := by decide +kernel
theorem dX12_split_177 : decode cX12_split 177 = .ok (.iload_n 1, 1) := by decide +kernel
theorem dX12_split_178 : decode cX12_split 178 = .ok (.dup2, 1) := by decide +kernel
theorem dX12_split_179 : decode cX12_split 179 = .ok (.iaload, 1) := by decide +kernel
theorem dX12_split_180 : decode cX12_split 180 = .ok (.iload_n 2, 1) := by decide +kernel
theorem dX12_split_181 : decode cX12_split 181 = .ok (.iadd, 1) := by decide +kernel
theorem dX12_split_182 : decode cX12_split 182 = .ok (.iastore, 1) := by decide +kernel
theorem dX12_split_183 : decode cX12_split 183 = .ok (.aload_n 0, 1) := by decide +kernel
theorem dX12_split_184 : decode cX12_split 184 = .ok (.getfield 50, 3) := by decide +kernel
theorem dX12_split_187 : decode cX12_split 187 = .ok (.iload_n 1, 1) := by decide +kernel
theorem dX12_split_188 : decode cX12_split 188 = .ok (.dup2, 1) := by decide +kernel
theorem dX12_split_189 : decode cX12_split 189 = .ok (.iaload, 1) := by decide +kernel
theorem dX12_split_190 : decode cX12_split 190 = .ok (.iload_n 3, 1) := by decide +kernel
theorem dX12_split_191 : decode cX12_split 191 = .ok (.iadd, 1) := by decide +kernel
theorem dX12_split_192 : decode cX12_split 192 = .ok (.iastore, 1) := by decide +kernel
theorem dX12_split_193 : decode cX12_split 193 = .ok (.aload_n 0, 1) := by decide +kernel
theorem dX12_split_194 : decode cX12_split 194 = .ok (.getfield 53, 3) := by decide +kernel
theorem dX12_split_197 : decode cX12_split 197 = .ok (.iload_n 1, 1) := by decide +kernel
theorem dX12_split_198 : decode cX12_split 198 = .ok (.dup2, 1) := by decide +kernel
theorem dX12_split_199 : decode cX12_split 199 = .ok (.iaload, 1) := by decide +kernel
theorem dX12_split_200 : decode cX12_split 200 = .ok (.iload_n 3, 1) := by decide +kernel
theorem dX12_split_201 : decode cX12_split 201 = .ok (.ifCond .le 7, 3) := by decide +kernel
theorem dX12_split_204 : decode cX12_split 204 = .ok (.iconst 1, 1) := by decide +kernel
theorem dX12_split_205 : decode cX12_split 205 = .ok (.goto 4, 3) := by decide +kernel
theorem dX12_split_208 : decode cX12_split 208 = .ok (.iconst 0, 1) := by decide +kernel
theorem dX12_split_209 : decode cX12_split 209 = .ok (.iadd, 1) := by decide +kernel
theorem dX12_split_210 : decode cX12_split 210 = .ok (.iastore, 1) := by decide +kernel
theorem dX12_split_211 : decode cX12_split 211 = .ok (.return_, 1) := by decide +kernel
theorem k_X12_split_f47 : Cond.fieldLink RX12 47 "TideLotsModel$State" "shown" "[I" ∈ wsX12_split := by decide +kernel
theorem i_X12_split_X12 : ∀ w ∈ u_ws RX12 TX12 19, w ∈ wsX12_split := by decide +kernel
theorem k_X12_split_f50 : Cond.fieldLink RX12 50 "TideLotsModel$State" "hidden" "[I" ∈ wsX12_split := by decide +kernel
theorem k_X12_split_f53 : Cond.fieldLink RX12 53 "TideLotsModel$State" "hid" "[I" ∈ wsX12_split := by decide +kernel
theorem k_X12_split_f35 : Cond.fieldLink RX12 35 "TideLotsModel$State" "caught" "[I" ∈ wsX12_split := by decide +kernel
theorem k_X12_split_f3 : Cond.fieldLink RX12 3 "TideLotsModel$State" "this$0" "LTideLotsModel;" ∈ wsX12_split := by decide +kernel
theorem i_X12_split_X14 : ∀ w ∈ u_ws RX14 TX14 15, w ∈ wsX12_split := by decide +kernel
theorem kn_X12_163 : Cond.fieldLinkNest "TideLotsModel$State" (163 : Nat) "TideLotsModel$Told" "member" "[I" "TideLotsModel" ∈ gNs := by decide +kernel
theorem i_X12_split_X13 : ∀ w ∈ u_ws RX13 TX13 25, w ∈ wsX12_split := by decide +kernel
theorem k_X12_split_f44 : Cond.fieldLink RX12 44 "TideLotsModel$State" "cheats" "[I" ∈ wsX12_split := by decide +kernel
theorem kn_X12_160 : Cond.fieldLinkNest "TideLotsModel$State" (160 : Nat) "TideLotsModel$Told" "members" "[I" "TideLotsModel" ∈ gNs := by decide +kernel
abbrev rX12_split : Room := { frames := 0, cells := 0, slots := 0, locals := 0 }
noncomputable def b_X12_split_209 (M : gMem) (s0 : Option Nat) (s1 : Int32) (s2 : Int32) (s3 : Int32) : Option (Unit × gMem) :=
  dr s0 fun a1 => ck (mT M a1 = 20) <| ck (inb s1 (mL M a1)) <| lw (wI M a1 s1.toNatClampNeg ((s2 + s3))) fun M4 => some ((), M4)
noncomputable def b_X12_split_164 (M : gMem) (x0 : Nat) (x1 : Int32) (x2 : Int32) (x3 : Int32) (x4 : Int32) (x5 : Int32) (s0 : Option Nat) (s1 : Int32) (s2 : Int32) (s3 : Int32) (s4 : Int32) : Option ((gMem × Int32) ⊕ (Unit × gMem)) :=
  dr s0 fun a6 => ck (mT M a6 = 20) <| ck (inb s1 (mL M a6)) <| lw (wI M a6 s1.toNatClampNeg ((s2 + (s3 + s4)))) fun M9 => some (.inl (M9, (x5 + (1 : Int32))))
noncomputable def bb_X12_split_116 (M : gMem) (x0 : Nat) (x1 : Int32) (x2 : Int32) (x3 : Int32) (x4 : Int32) (x5 : Int32) : Option ((gMem × Int32) ⊕ (Unit × gMem)) :=
  (if x4 ≤ x5 then ck (mT M x0 = 11) <| dr ((mR M x0 11)) fun a12 => ck (mT M a12 = 20) <| ck (inb x1 (mL M a12)) <| ck (inb x1 (mL M a12)) <| lw (wI M a12 x1.toNatClampNeg (((mI M a12 x1.toNatClampNeg) + x2))) fun M16 => dr ((mR M16 x0 12)) fun a19 => ck (mT M16 a19 = 20) <| ck (inb x1 (mL M16 a19)) <| ck (inb x1 (mL M16 a19)) <| lw (wI M16 a19 x1.toNatClampNeg (((mI M16 a19 x1.toNatClampNeg) + x3))) fun M23 => dr ((mR M23 x0 13)) fun a27 => ck (mT M23 a27 = 20) <| ck (inb x1 (mL M23 a27)) <| (if x3 ≤ 0 then oI (b_X12_split_209 M23 ((mR M23 x0 13)) x1 ((mI M23 a27 x1.toNatClampNeg)) ((0 : Int32))) else oI (b_X12_split_209 M23 ((mR M23 x0 13)) x1 ((mI M23 a27 x1.toNatClampNeg)) ((1 : Int32)))) else ck (mT M x0 = 11) <| dr ((mR M x0 18)) fun a33 => ck (mT M a33 = 13) <| dr ((mR M a33 11)) fun a35 => ck (mT M a35 = 12) <| dr ((mR M a35 14)) fun a37 => ck (mT M a37 = 20) <| ck (inb (((8 : Int32) * x1) + x5) (mL M a37)) <| dr ((mR M x0 7)) fun a40 => ck (mT M a40 = 20) <| ck (inb (mI M a37 ((((8 : Int32) * x1) + x5)).toNatClampNeg) (mL M a40)) <| ck (¬ x4 = 0) <| (if x5 = 0 then ck (¬ x4 = 0) <| b_X12_split_164 M x0 x1 x2 x3 x4 x5 ((mR M x0 7)) ((mI M a37 ((((8 : Int32) * x1) + x5)).toNatClampNeg)) ((mI M a40 ((mI M a37 ((((8 : Int32) * x1) + x5)).toNatClampNeg)).toNatClampNeg)) ((x2 / x4)) ((x2 - x2 / x4 * x4)) else b_X12_split_164 M x0 x1 x2 x3 x4 x5 ((mR M x0 7)) ((mI M a37 ((((8 : Int32) * x1) + x5)).toNatClampNeg)) ((mI M a40 ((mI M a37 ((((8 : Int32) * x1) + x5)).toNatClampNeg)).toNatClampNeg)) ((x2 / x4)) ((0 : Int32))))
noncomputable def lp_X12_split_116 (M : gMem) (x0 : Nat) (x1 : Int32) (x2 : Int32) (x3 : Int32) (x4 : Int32) (x5 : Int32) : Option (Unit × gMem) :=
  lp (fun (q : gMem × Int32) => bb_X12_split_116 q.1 x0 x1 x2 x3 x4 q.2) (M, x5)
noncomputable def b_X12_split_78 (M : gMem) (x0 : Nat) (x1 : Int32) (x2 : Int32) (x3 : Int32) (x4 : Int32) (x5 : Int32) (x6 : Int32) (s0 : Int32) : Option ((gMem × Int32 × Int32 × Int32) ⊕ (Unit × gMem)) :=
  ck (mT M x0 = 11) <| dr ((mR M x0 7)) fun a46 => ck (mT M a46 = 20) <| ck (inb x6 (mL M a46)) <| ck (inb x6 (mL M a46)) <| lw (wI M a46 x6.toNatClampNeg (((mI M a46 x6.toNatClampNeg) - s0))) fun M50 => dr ((mR M50 x0 7)) fun a53 => ck (mT M50 a53 = 20) <| ck (inb x6 (mL M50 a53)) <| some (.inl (M50, (x2 + s0), (x3 + (mI M50 a53 x6.toNatClampNeg)), (x5 + (1 : Int32))))
noncomputable def bb_X12_split_21 (M : gMem) (x0 : Nat) (x1 : Int32) (x2 : Int32) (x3 : Int32) (x4 : Int32) (x5 : Int32) : Option ((gMem × Int32 × Int32 × Int32) ⊕ (Unit × gMem)) :=
  (if x4 ≤ x5 then oI (lp_X12_split_116 M x0 x1 x2 x3 x4 ((0 : Int32))) else ck (mT M x0 = 11) <| dr ((mR M x0 18)) fun a58 => ck (mT M a58 = 13) <| dr ((mR M a58 11)) fun a60 => ck (mT M a60 = 12) <| dr ((mR M a60 14)) fun a62 => ck (mT M a62 = 20) <| ck (inb (((8 : Int32) * x1) + x5) (mL M a62)) <| dr ((mR M x0 10)) fun a65 => ck (mT M a65 = 20) <| ck (inb (mI M a62 ((((8 : Int32) * x1) + x5)).toNatClampNeg) (mL M a65)) <| (if (mI M a65 ((mI M a62 ((((8 : Int32) * x1) + x5)).toNatClampNeg)).toNatClampNeg) = (1 : Int32) then dr ((mR M x0 7)) fun a71 => ck (mT M a71 = 20) <| ck (inb (mI M a62 ((((8 : Int32) * x1) + x5)).toNatClampNeg) (mL M a71)) <| b_X12_split_78 M x0 x1 x2 x3 x4 x5 ((mI M a62 ((((8 : Int32) * x1) + x5)).toNatClampNeg)) (((mI M a71 ((mI M a62 ((((8 : Int32) * x1) + x5)).toNatClampNeg)).toNatClampNeg) / (2 : Int32))) else dr ((mR M x0 7)) fun a68 => ck (mT M a68 = 20) <| ck (inb (mI M a62 ((((8 : Int32) * x1) + x5)).toNatClampNeg) (mL M a68)) <| b_X12_split_78 M x0 x1 x2 x3 x4 x5 ((mI M a62 ((((8 : Int32) * x1) + x5)).toNatClampNeg)) ((mI M a68 ((mI M a62 ((((8 : Int32) * x1) + x5)).toNatClampNeg)).toNatClampNeg))))
noncomputable def lp_X12_split_21 (M : gMem) (x0 : Nat) (x1 : Int32) (x2 : Int32) (x3 : Int32) (x4 : Int32) (x5 : Int32) : Option (Unit × gMem) :=
  lp (fun (q : gMem × Int32 × Int32 × Int32) => bb_X12_split_21 q.1 x0 x1 q.2.1 q.2.2.1 x4 q.2.2.2) (M, x2, x3, x5)
noncomputable def b_X12_split_0 (M : gMem) (x0 : Nat) (x1 : Int32) : Option (Unit × gMem) :=
  ck (mT M x0 = 11) <| dr ((mR M x0 18)) fun a75 => ck (mT M a75 = 13) <| dr ((mR M a75 11)) fun a77 => ck (mT M a77 = 12) <| dr ((mR M a77 13)) fun a79 => ck (mT M a79 = 20) <| ck (inb x1 (mL M a79)) <| lp_X12_split_21 M x0 x1 ((0 : Int32)) ((0 : Int32)) ((mI M a79 x1.toNatClampNeg)) ((0 : Int32))
noncomputable def f_X12_split (M : gMem) (x0 : Nat) (x1 : Int32) : Option (Unit × gMem) :=
  b_X12_split_0 M x0 x1
set_option maxHeartbeats 4000000 in
set_option maxRecDepth 100000 in
theorem t_X12_split_209 (X : gX p s m args meth c D cy B (gSt Z B H0) RX12 cX12_split wsX12_split 8) (hr : meth.sig.returnType = none) {Q : State → Prop} : ∀ (M : gMem) (s0 : Option Nat) (s1 : Int32) (s2 : Int32) (s3 : Int32) (z : Unit × gMem), b_X12_split_209 M s0 s1 s2 s3 = some z → (fun (r : Unit × gMem) => Q = gMQ below D cy B H0 args s 0 0 none r.2) z → gGo p l e rX12_split s m args below meth c D cy B H0 8 0 0 Q 209 [] [vI s3, vI s2, vI s1, vR s0] M := by
  intro M s0 s1 s2 s3 z hf hK
  unfold b_X12_split_209 at hf
  refine g_iadd X dX12_split_209 ?_
  obtain ⟨a1, ha1, hf⟩ := dr_e hf
  obtain ⟨hT2, hf⟩ := ck_e hf
  obtain ⟨hg3, hf⟩ := ck_e hf
  refine g_iast X dX12_split_210 ha1 hT2 hg3 ?_
  obtain ⟨M4, hM4, hf⟩ := lw_e hf
  rw [← hM4]
  have hT5 : mT M4 a1 = 20 := by rw [hM4]; exact hT2
  cases hf
  refine g_eqQ hK ?_
  exact g_vret X hr dX12_split_211
set_option maxHeartbeats 4000000 in
set_option maxRecDepth 100000 in
theorem t_X12_split_164 (X : gX p s m args meth c D cy B (gSt Z B H0) RX12 cX12_split wsX12_split 8) (hr : meth.sig.returnType = none) {Q : State → Prop} : ∀ (M : gMem) (x0 : Nat) (x1 : Int32) (x2 : Int32) (x3 : Int32) (x4 : Int32) (x5 : Int32) (s0 : Option Nat) (s1 : Int32) (s2 : Int32) (s3 : Int32) (s4 : Int32) (z : (gMem × Int32) ⊕ (Unit × gMem)), b_X12_split_164 M x0 x1 x2 x3 x4 x5 s0 s1 s2 s3 s4 = some z → (Sum.elim (fun (q : gMem × Int32) => gGo p l e rX12_split s m args below meth c D cy B H0 8 0 0 Q 116 [(0, vR (some x0)), (1, vI x1), (2, vI x2), (3, vI x3), (4, vI x4), (5, vI q.2)] [] q.1) (fun (r : Unit × gMem) => Q = gMQ below D cy B H0 args s 0 0 none r.2)) z → gGo p l e rX12_split s m args below meth c D cy B H0 8 0 0 Q 164 [(0, vR (some x0)), (1, vI x1), (2, vI x2), (3, vI x3), (4, vI x4), (5, vI x5)] [vI s4, vI s3, vI s2, vI s1, vR s0] M := by
  intro M x0 x1 x2 x3 x4 x5 s0 s1 s2 s3 s4 z hf hK
  unfold b_X12_split_164 at hf
  refine g_iadd X dX12_split_164 ?_
  refine g_iadd X dX12_split_165 ?_
  obtain ⟨a6, ha6, hf⟩ := dr_e hf
  obtain ⟨hT7, hf⟩ := ck_e hf
  obtain ⟨hg8, hf⟩ := ck_e hf
  refine g_iast X dX12_split_166 ha6 hT7 hg8 ?_
  obtain ⟨M9, hM9, hf⟩ := lw_e hf
  rw [← hM9]
  have hT10 : mT M9 a6 = 20 := by rw [hM9]; exact hT7
  refine g_iinc (v := (1 : Int32)) (lv' := [(5, vI (x5 + (1 : Int32))), (0, vR (some x0)), (1, vI x1), (2, vI x2), (3, vI x3), (4, vI x4)]) X dX12_split_167 rfl (by decide) (by decide) rfl ?_
  refine g_goto (tgt := 116) X dX12_split_170 (by decide) ?_
  cases hf
  refine g_sub (lvsub_of _ _ [1, 2, 3, 4, 5, 0] rfl) ?_
  exact hK
set_option maxHeartbeats 4000000 in
set_option maxRecDepth 100000 in
theorem tb_X12_split_116 (X : gX p s m args meth c D cy B (gSt Z B H0) RX12 cX12_split wsX12_split 8) (hr : meth.sig.returnType = none) {Q : State → Prop} : ∀ (M : gMem) (x0 : Nat) (x1 : Int32) (x2 : Int32) (x3 : Int32) (x4 : Int32) (x5 : Int32) (z : (gMem × Int32) ⊕ (Unit × gMem)), bb_X12_split_116 M x0 x1 x2 x3 x4 x5 = some z → (Sum.elim (fun (q : gMem × Int32) => gGo p l e rX12_split s m args below meth c D cy B H0 8 0 0 Q 116 [(0, vR (some x0)), (1, vI x1), (2, vI x2), (3, vI x3), (4, vI x4), (5, vI q.2)] [] q.1) (fun (r : Unit × gMem) => Q = gMQ below D cy B H0 args s 0 0 none r.2)) z → gGo p l e rX12_split s m args below meth c D cy B H0 8 0 0 Q 116 [(0, vR (some x0)), (1, vI x1), (2, vI x2), (3, vI x3), (4, vI x4), (5, vI x5)] [] M := by
  intro M x0 x1 x2 x3 x4 x5 z hf hK
  unfold bb_X12_split_116 at hf
  refine g_iload X dX12_split_116 rfl ?_
  refine g_iload X dX12_split_118 rfl ?_
  refine g_icmp_ge (tgt := 173) X dX12_split_120 (by decide) (fun hc => ?_) (fun hc => ?_)
  · have hf := ife_t hc hf
    refine g_aload_n X dX12_split_173 rfl rfl ?_
    obtain ⟨hT11, hf⟩ := ck_e hf
    refine g_get (ci := 10) (v := vR (mR M x0 11)) 11 X cdX12 i_X12_split_X12 (by decide) k_X12_split_f47 rfl dX12_split_174 rfl hT11 rfl ?_
    refine g_iload_n X dX12_split_177 rfl rfl ?_
    refine g_dup2 X dX12_split_178 rfl rfl ?_
    obtain ⟨a12, ha12, hf⟩ := dr_e hf
    obtain ⟨hT13, hf⟩ := ck_e hf
    obtain ⟨hg14, hf⟩ := ck_e hf
    refine g_iald X dX12_split_179 ha12 hT13 hg14 ?_
    refine g_iload_n X dX12_split_180 rfl rfl ?_
    refine g_iadd X dX12_split_181 ?_
    obtain ⟨hg15, hf⟩ := ck_e hf
    refine g_iast X dX12_split_182 ha12 hT13 hg15 ?_
    obtain ⟨M16, hM16, hf⟩ := lw_e hf
    rw [← hM16]
    have hT17 : mT M16 x0 = 11 := by rw [hM16]; exact hT11
    have hT18 : mT M16 a12 = 20 := by rw [hM16]; exact hT13
    refine g_aload_n X dX12_split_183 rfl rfl ?_
    refine g_get (ci := 10) (v := vR (mR M16 x0 12)) 12 X cdX12 i_X12_split_X12 (by decide) k_X12_split_f50 rfl dX12_split_184 rfl hT17 rfl ?_
    refine g_iload_n X dX12_split_187 rfl rfl ?_
    refine g_dup2 X dX12_split_188 rfl rfl ?_
    obtain ⟨a19, ha19, hf⟩ := dr_e hf
    obtain ⟨hT20, hf⟩ := ck_e hf
    obtain ⟨hg21, hf⟩ := ck_e hf
    refine g_iald X dX12_split_189 ha19 hT20 hg21 ?_
    refine g_iload_n X dX12_split_190 rfl rfl ?_
    refine g_iadd X dX12_split_191 ?_
    obtain ⟨hg22, hf⟩ := ck_e hf
    refine g_iast X dX12_split_192 ha19 hT20 hg22 ?_
    obtain ⟨M23, hM23, hf⟩ := lw_e hf
    rw [← hM23]
    have hT24 : mT M23 x0 = 11 := by rw [hM23]; exact hT17
    have hT25 : mT M23 a12 = 20 := by rw [hM23]; exact hT18
    have hT26 : mT M23 a19 = 20 := by rw [hM23]; exact hT20
    refine g_aload_n X dX12_split_193 rfl rfl ?_
    refine g_get (ci := 10) (v := vR (mR M23 x0 13)) 13 X cdX12 i_X12_split_X12 (by decide) k_X12_split_f53 rfl dX12_split_194 rfl hT24 rfl ?_
    refine g_iload_n X dX12_split_197 rfl rfl ?_
    refine g_dup2 X dX12_split_198 rfl rfl ?_
    obtain ⟨a27, ha27, hf⟩ := dr_e hf
    obtain ⟨hT28, hf⟩ := ck_e hf
    obtain ⟨hg29, hf⟩ := ck_e hf
    refine g_iald X dX12_split_199 ha27 hT28 hg29 ?_
    refine g_iload_n X dX12_split_200 rfl rfl ?_
    refine g_if_le (tgt := 208) X dX12_split_201 (by decide) (fun hc => ?_) (fun hc => ?_)
    · have hf := ife_t hc hf
      refine g_iconst (v := (0 : Int32)) X dX12_split_208 (by decide) ?_
      obtain ⟨w30, hw30, hz30⟩ := oI_e hf
      subst hz30
      have hf := hw30
      refine g_sub (lvsub_of _ _ [] rfl) ?_
      exact t_X12_split_209 X hr _ _ _ _ _ _ hf hK
    · have hf := ife_f hc hf
      refine g_iconst (v := (1 : Int32)) X dX12_split_204 (by decide) ?_
      refine g_goto (tgt := 209) X dX12_split_205 (by decide) ?_
      obtain ⟨w31, hw31, hz31⟩ := oI_e hf
      subst hz31
      have hf := hw31
      refine g_sub (lvsub_of _ _ [] rfl) ?_
      exact t_X12_split_209 X hr _ _ _ _ _ _ hf hK
  · have hf := ife_f hc hf
    refine g_aload_n X dX12_split_123 rfl rfl ?_
    obtain ⟨hT32, hf⟩ := ck_e hf
    refine g_get (ci := 10) (v := vR (mR M x0 7)) 7 X cdX12 i_X12_split_X12 (by decide) k_X12_split_f35 rfl dX12_split_124 rfl hT32 rfl ?_
    refine g_aload_n X dX12_split_127 rfl rfl ?_
    refine g_get (ci := 10) (v := vR (mR M x0 18)) 18 X cdX12 i_X12_split_X12 (by decide) k_X12_split_f3 rfl dX12_split_128 rfl hT32 rfl ?_
    obtain ⟨a33, ha33, hf⟩ := dr_e hf
    obtain ⟨hT34, hf⟩ := ck_e hf
    refine g_getN (ci := 12) (w := vR (mR M a33 11)) 11 X cdX14 i_X12_split_X14 (by decide) (gNw X _ kn_X12_81) rfl dX12_split_131 ha33 hT34 rfl ?_
    obtain ⟨a35, ha35, hf⟩ := dr_e hf
    obtain ⟨hT36, hf⟩ := ck_e hf
    refine g_getN (ci := 11) (w := vR (mR M a35 14)) 14 X cdX13 i_X12_split_X13 (by decide) (gNw X _ kn_X12_163) rfl dX12_split_134 ha35 hT36 rfl ?_
    refine g_bipush (v := (8 : Int32)) X dX12_split_137 (by decide) ?_
    refine g_iload_n X dX12_split_139 rfl rfl ?_
    refine g_imul X dX12_split_140 ?_
    refine g_iload X dX12_split_141 rfl ?_
    refine g_iadd X dX12_split_143 ?_
    obtain ⟨a37, ha37, hf⟩ := dr_e hf
    obtain ⟨hT38, hf⟩ := ck_e hf
    obtain ⟨hg39, hf⟩ := ck_e hf
    refine g_iald X dX12_split_144 ha37 hT38 hg39 ?_
    refine g_dup2 X dX12_split_145 rfl rfl ?_
    obtain ⟨a40, ha40, hf⟩ := dr_e hf
    obtain ⟨hT41, hf⟩ := ck_e hf
    obtain ⟨hg42, hf⟩ := ck_e hf
    refine g_iald X dX12_split_146 ha40 hT41 hg42 ?_
    refine g_iload_n X dX12_split_147 rfl rfl ?_
    refine g_iload X dX12_split_148 rfl ?_
    obtain ⟨hg43, hf⟩ := ck_e hf
    refine g_idiv X dX12_split_150 hg43 ?_
    refine g_iload X dX12_split_151 rfl ?_
    refine g_if_ne (tgt := 163) X dX12_split_153 (by decide) (fun hc => ?_) (fun hc => ?_)
    · have hf := ife_f hc hf
      refine g_iconst (v := (0 : Int32)) X dX12_split_163 (by decide) ?_
      refine g_sub (lvsub_of _ _ [0, 1, 2, 3, 4, 5] rfl) ?_
      exact t_X12_split_164 X hr _ _ _ _ _ _ _ _ _ _ _ _ _ hf hK
    · have hf := ife_t hc hf
      refine g_iload_n X dX12_split_156 rfl rfl ?_
      refine g_iload X dX12_split_157 rfl ?_
      obtain ⟨hg44, hf⟩ := ck_e hf
      refine g_irem X dX12_split_159 hg44 ?_
      refine g_goto (tgt := 164) X dX12_split_160 (by decide) ?_
      refine g_sub (lvsub_of _ _ [0, 1, 2, 3, 4, 5] rfl) ?_
      exact t_X12_split_164 X hr _ _ _ _ _ _ _ _ _ _ _ _ _ hf hK
set_option maxHeartbeats 4000000 in
set_option maxRecDepth 100000 in
theorem tl_X12_split_116 (X : gX p s m args meth c D cy B (gSt Z B H0) RX12 cX12_split wsX12_split 8) (hr : meth.sig.returnType = none) {Q : State → Prop} : ∀ (M : gMem) (x0 : Nat) (x1 : Int32) (x2 : Int32) (x3 : Int32) (x4 : Int32) (x5 : Int32) (z : Unit × gMem), lp_X12_split_116 M x0 x1 x2 x3 x4 x5 = some z → (fun (r : Unit × gMem) => Q = gMQ below D cy B H0 args s 0 0 none r.2) z → gGo p l e rX12_split s m args below meth c D cy B H0 8 0 0 Q 116 [(0, vR (some x0)), (1, vI x1), (2, vI x2), (3, vI x3), (4, vI x4), (5, vI x5)] [] M := by
  intro M x0 x1 x2 x3 x4 x5 z hf hK
  refine lp_ind (P := (fun (q : gMem × Int32) (z : Unit × gMem) => (fun (r : Unit × gMem) => Q = gMQ below D cy B H0 args s 0 0 none r.2) z → gGo p l e rX12_split s m args below meth c D cy B H0 8 0 0 Q 116 [(0, vR (some x0)), (1, vI x1), (2, vI x2), (3, vI x3), (4, vI x4), (5, vI q.2)] [] q.1)) (fun q z hq => ?_) _ _ hf hK
  intro hK
  obtain ⟨w, hw, hm⟩ := hq
  refine tb_X12_split_116 X hr _ _ _ _ _ _ _ w hw ?_
  cases w with
  | inl a => exact hm hK
  | inr b => cases hm; exact hK
set_option maxHeartbeats 4000000 in
set_option maxRecDepth 100000 in
theorem t_X12_split_78 (X : gX p s m args meth c D cy B (gSt Z B H0) RX12 cX12_split wsX12_split 8) (hr : meth.sig.returnType = none) {Q : State → Prop} : ∀ (M : gMem) (x0 : Nat) (x1 : Int32) (x2 : Int32) (x3 : Int32) (x4 : Int32) (x5 : Int32) (x6 : Int32) (s0 : Int32) (z : (gMem × Int32 × Int32 × Int32) ⊕ (Unit × gMem)), b_X12_split_78 M x0 x1 x2 x3 x4 x5 x6 s0 = some z → (Sum.elim (fun (q : gMem × Int32 × Int32 × Int32) => gGo p l e rX12_split s m args below meth c D cy B H0 8 0 0 Q 21 [(0, vR (some x0)), (1, vI x1), (2, vI q.2.1), (3, vI q.2.2.1), (4, vI x4), (5, vI q.2.2.2)] [] q.1) (fun (r : Unit × gMem) => Q = gMQ below D cy B H0 args s 0 0 none r.2)) z → gGo p l e rX12_split s m args below meth c D cy B H0 8 0 0 Q 78 [(0, vR (some x0)), (1, vI x1), (2, vI x2), (3, vI x3), (4, vI x4), (5, vI x5), (6, vI x6)] [vI s0] M := by
  intro M x0 x1 x2 x3 x4 x5 x6 s0 z hf hK
  unfold b_X12_split_78 at hf
  refine g_istore (lv' := [(7, vI s0), (0, vR (some x0)), (1, vI x1), (2, vI x2), (3, vI x3), (4, vI x4), (5, vI x5), (6, vI x6)]) X dX12_split_78 (by decide) rfl ?_
  refine g_iload_n X dX12_split_80 rfl rfl ?_
  refine g_iload X dX12_split_81 rfl ?_
  refine g_iadd X dX12_split_83 ?_
  refine g_istore_n (lv' := [(2, vI (x2 + s0)), (7, vI s0), (0, vR (some x0)), (1, vI x1), (3, vI x3), (4, vI x4), (5, vI x5), (6, vI x6)]) X dX12_split_84 rfl (by decide) rfl ?_
  refine g_aload_n X dX12_split_85 rfl rfl ?_
  obtain ⟨hT45, hf⟩ := ck_e hf
  refine g_get (ci := 10) (v := vR (mR M x0 7)) 7 X cdX12 i_X12_split_X12 (by decide) k_X12_split_f35 rfl dX12_split_86 rfl hT45 rfl ?_
  refine g_iload X dX12_split_89 rfl ?_
  refine g_dup2 X dX12_split_91 rfl rfl ?_
  obtain ⟨a46, ha46, hf⟩ := dr_e hf
  obtain ⟨hT47, hf⟩ := ck_e hf
  obtain ⟨hg48, hf⟩ := ck_e hf
  refine g_iald X dX12_split_92 ha46 hT47 hg48 ?_
  refine g_iload X dX12_split_93 rfl ?_
  refine g_isub X dX12_split_95 ?_
  obtain ⟨hg49, hf⟩ := ck_e hf
  refine g_iast X dX12_split_96 ha46 hT47 hg49 ?_
  obtain ⟨M50, hM50, hf⟩ := lw_e hf
  rw [← hM50]
  have hT51 : mT M50 x0 = 11 := by rw [hM50]; exact hT45
  have hT52 : mT M50 a46 = 20 := by rw [hM50]; exact hT47
  refine g_iload_n X dX12_split_97 rfl rfl ?_
  refine g_aload_n X dX12_split_98 rfl rfl ?_
  refine g_get (ci := 10) (v := vR (mR M50 x0 7)) 7 X cdX12 i_X12_split_X12 (by decide) k_X12_split_f35 rfl dX12_split_99 rfl hT51 rfl ?_
  refine g_iload X dX12_split_102 rfl ?_
  obtain ⟨a53, ha53, hf⟩ := dr_e hf
  obtain ⟨hT54, hf⟩ := ck_e hf
  obtain ⟨hg55, hf⟩ := ck_e hf
  refine g_iald X dX12_split_104 ha53 hT54 hg55 ?_
  refine g_iadd X dX12_split_105 ?_
  refine g_istore_n (lv' := [(3, vI (x3 + (mI M50 a53 x6.toNatClampNeg))), (2, vI (x2 + s0)), (7, vI s0), (0, vR (some x0)), (1, vI x1), (4, vI x4), (5, vI x5), (6, vI x6)]) X dX12_split_106 rfl (by decide) rfl ?_
  refine g_iinc (v := (1 : Int32)) (lv' := [(5, vI (x5 + (1 : Int32))), (3, vI (x3 + (mI M50 a53 x6.toNatClampNeg))), (2, vI (x2 + s0)), (7, vI s0), (0, vR (some x0)), (1, vI x1), (4, vI x4), (6, vI x6)]) X dX12_split_107 rfl (by decide) (by decide) rfl ?_
  refine g_goto (tgt := 21) X dX12_split_110 (by decide) ?_
  cases hf
  refine g_sub (lvsub_of _ _ [4, 5, 2, 1, 6, 0] rfl) ?_
  exact hK
set_option maxHeartbeats 4000000 in
set_option maxRecDepth 100000 in
theorem tb_X12_split_21 (X : gX p s m args meth c D cy B (gSt Z B H0) RX12 cX12_split wsX12_split 8) (hr : meth.sig.returnType = none) {Q : State → Prop} : ∀ (M : gMem) (x0 : Nat) (x1 : Int32) (x2 : Int32) (x3 : Int32) (x4 : Int32) (x5 : Int32) (z : (gMem × Int32 × Int32 × Int32) ⊕ (Unit × gMem)), bb_X12_split_21 M x0 x1 x2 x3 x4 x5 = some z → (Sum.elim (fun (q : gMem × Int32 × Int32 × Int32) => gGo p l e rX12_split s m args below meth c D cy B H0 8 0 0 Q 21 [(0, vR (some x0)), (1, vI x1), (2, vI q.2.1), (3, vI q.2.2.1), (4, vI x4), (5, vI q.2.2.2)] [] q.1) (fun (r : Unit × gMem) => Q = gMQ below D cy B H0 args s 0 0 none r.2)) z → gGo p l e rX12_split s m args below meth c D cy B H0 8 0 0 Q 21 [(0, vR (some x0)), (1, vI x1), (2, vI x2), (3, vI x3), (4, vI x4), (5, vI x5)] [] M := by
  intro M x0 x1 x2 x3 x4 x5 z hf hK
  unfold bb_X12_split_21 at hf
  refine g_iload X dX12_split_21 rfl ?_
  refine g_iload X dX12_split_23 rfl ?_
  refine g_icmp_ge (tgt := 113) X dX12_split_25 (by decide) (fun hc => ?_) (fun hc => ?_)
  · have hf := ife_t hc hf
    refine g_iconst (v := (0 : Int32)) X dX12_split_113 (by decide) ?_
    refine g_istore (lv' := [(5, vI (0 : Int32)), (0, vR (some x0)), (1, vI x1), (2, vI x2), (3, vI x3), (4, vI x4)]) X dX12_split_114 (by decide) rfl ?_
    obtain ⟨w56, hw56, hz56⟩ := oI_e hf
    subst hz56
    have hf := hw56
    refine g_sub (lvsub_of _ _ [1, 2, 3, 4, 5, 0] rfl) ?_
    exact tl_X12_split_116 X hr _ _ _ _ _ _ _ _ hf hK
  · have hf := ife_f hc hf
    refine g_aload_n X dX12_split_28 rfl rfl ?_
    obtain ⟨hT57, hf⟩ := ck_e hf
    refine g_get (ci := 10) (v := vR (mR M x0 18)) 18 X cdX12 i_X12_split_X12 (by decide) k_X12_split_f3 rfl dX12_split_29 rfl hT57 rfl ?_
    obtain ⟨a58, ha58, hf⟩ := dr_e hf
    obtain ⟨hT59, hf⟩ := ck_e hf
    refine g_getN (ci := 12) (w := vR (mR M a58 11)) 11 X cdX14 i_X12_split_X14 (by decide) (gNw X _ kn_X12_81) rfl dX12_split_32 ha58 hT59 rfl ?_
    obtain ⟨a60, ha60, hf⟩ := dr_e hf
    obtain ⟨hT61, hf⟩ := ck_e hf
    refine g_getN (ci := 11) (w := vR (mR M a60 14)) 14 X cdX13 i_X12_split_X13 (by decide) (gNw X _ kn_X12_163) rfl dX12_split_35 ha60 hT61 rfl ?_
    refine g_bipush (v := (8 : Int32)) X dX12_split_38 (by decide) ?_
    refine g_iload_n X dX12_split_40 rfl rfl ?_
    refine g_imul X dX12_split_41 ?_
    refine g_iload X dX12_split_42 rfl ?_
    refine g_iadd X dX12_split_44 ?_
    obtain ⟨a62, ha62, hf⟩ := dr_e hf
    obtain ⟨hT63, hf⟩ := ck_e hf
    obtain ⟨hg64, hf⟩ := ck_e hf
    refine g_iald X dX12_split_45 ha62 hT63 hg64 ?_
    refine g_istore (lv' := [(6, vI (mI M a62 ((((8 : Int32) * x1) + x5)).toNatClampNeg)), (0, vR (some x0)), (1, vI x1), (2, vI x2), (3, vI x3), (4, vI x4), (5, vI x5)]) X dX12_split_46 (by decide) rfl ?_
    refine g_aload_n X dX12_split_48 rfl rfl ?_
    refine g_get (ci := 10) (v := vR (mR M x0 10)) 10 X cdX12 i_X12_split_X12 (by decide) k_X12_split_f44 rfl dX12_split_49 rfl hT57 rfl ?_
    refine g_iload X dX12_split_52 rfl ?_
    obtain ⟨a65, ha65, hf⟩ := dr_e hf
    obtain ⟨hT66, hf⟩ := ck_e hf
    obtain ⟨hg67, hf⟩ := ck_e hf
    refine g_iald X dX12_split_54 ha65 hT66 hg67 ?_
    refine g_iconst (v := (1 : Int32)) X dX12_split_55 (by decide) ?_
    refine g_icmp_ne (tgt := 71) X dX12_split_56 (by decide) (fun hc => ?_) (fun hc => ?_)
    · have hf := ife_f hc hf
      refine g_aload_n X dX12_split_71 rfl rfl ?_
      refine g_get (ci := 10) (v := vR (mR M x0 7)) 7 X cdX12 i_X12_split_X12 (by decide) k_X12_split_f35 rfl dX12_split_72 rfl hT57 rfl ?_
      refine g_iload X dX12_split_75 rfl ?_
      obtain ⟨a68, ha68, hf⟩ := dr_e hf
      obtain ⟨hT69, hf⟩ := ck_e hf
      obtain ⟨hg70, hf⟩ := ck_e hf
      refine g_iald X dX12_split_77 ha68 hT69 hg70 ?_
      refine g_sub (lvsub_of _ _ [1, 2, 3, 4, 5, 6, 0] rfl) ?_
      exact t_X12_split_78 X hr _ _ _ _ _ _ _ _ _ _ hf hK
    · have hf := ife_t hc hf
      refine g_aload_n X dX12_split_59 rfl rfl ?_
      refine g_get (ci := 10) (v := vR (mR M x0 7)) 7 X cdX12 i_X12_split_X12 (by decide) k_X12_split_f35 rfl dX12_split_60 rfl hT57 rfl ?_
      refine g_iload X dX12_split_63 rfl ?_
      obtain ⟨a71, ha71, hf⟩ := dr_e hf
      obtain ⟨hT72, hf⟩ := ck_e hf
      obtain ⟨hg73, hf⟩ := ck_e hf
      refine g_iald X dX12_split_65 ha71 hT72 hg73 ?_
      refine g_iconst (v := (2 : Int32)) X dX12_split_66 (by decide) ?_
      refine g_idiv X dX12_split_67 (by decide) ?_
      refine g_goto (tgt := 78) X dX12_split_68 (by decide) ?_
      refine g_sub (lvsub_of _ _ [1, 2, 3, 4, 5, 6, 0] rfl) ?_
      exact t_X12_split_78 X hr _ _ _ _ _ _ _ _ _ _ hf hK
set_option maxHeartbeats 4000000 in
set_option maxRecDepth 100000 in
theorem tl_X12_split_21 (X : gX p s m args meth c D cy B (gSt Z B H0) RX12 cX12_split wsX12_split 8) (hr : meth.sig.returnType = none) {Q : State → Prop} : ∀ (M : gMem) (x0 : Nat) (x1 : Int32) (x2 : Int32) (x3 : Int32) (x4 : Int32) (x5 : Int32) (z : Unit × gMem), lp_X12_split_21 M x0 x1 x2 x3 x4 x5 = some z → (fun (r : Unit × gMem) => Q = gMQ below D cy B H0 args s 0 0 none r.2) z → gGo p l e rX12_split s m args below meth c D cy B H0 8 0 0 Q 21 [(0, vR (some x0)), (1, vI x1), (2, vI x2), (3, vI x3), (4, vI x4), (5, vI x5)] [] M := by
  intro M x0 x1 x2 x3 x4 x5 z hf hK
  refine lp_ind (P := (fun (q : gMem × Int32 × Int32 × Int32) (z : Unit × gMem) => (fun (r : Unit × gMem) => Q = gMQ below D cy B H0 args s 0 0 none r.2) z → gGo p l e rX12_split s m args below meth c D cy B H0 8 0 0 Q 21 [(0, vR (some x0)), (1, vI x1), (2, vI q.2.1), (3, vI q.2.2.1), (4, vI x4), (5, vI q.2.2.2)] [] q.1)) (fun q z hq => ?_) _ _ hf hK
  intro hK
  obtain ⟨w, hw, hm⟩ := hq
  refine tb_X12_split_21 X hr _ _ _ _ _ _ _ w hw ?_
  cases w with
  | inl a => exact hm hK
  | inr b => cases hm; exact hK
set_option maxHeartbeats 4000000 in
set_option maxRecDepth 100000 in
theorem t_X12_split_0 (X : gX p s m args meth c D cy B (gSt Z B H0) RX12 cX12_split wsX12_split 8) (hr : meth.sig.returnType = none) {Q : State → Prop} : ∀ (M : gMem) (x0 : Nat) (x1 : Int32) (z : Unit × gMem), b_X12_split_0 M x0 x1 = some z → (fun (r : Unit × gMem) => Q = gMQ below D cy B H0 args s 0 0 none r.2) z → gGo p l e rX12_split s m args below meth c D cy B H0 8 0 0 Q 0 [(0, vR (some x0)), (1, vI x1)] [] M := by
  intro M x0 x1 z hf hK
  unfold b_X12_split_0 at hf
  refine g_iconst (v := (0 : Int32)) X dX12_split_0 (by decide) ?_
  refine g_istore_n (lv' := [(2, vI (0 : Int32)), (0, vR (some x0)), (1, vI x1)]) X dX12_split_1 rfl (by decide) rfl ?_
  refine g_iconst (v := (0 : Int32)) X dX12_split_2 (by decide) ?_
  refine g_istore_n (lv' := [(3, vI (0 : Int32)), (2, vI (0 : Int32)), (0, vR (some x0)), (1, vI x1)]) X dX12_split_3 rfl (by decide) rfl ?_
  refine g_aload_n X dX12_split_4 rfl rfl ?_
  obtain ⟨hT74, hf⟩ := ck_e hf
  refine g_get (ci := 10) (v := vR (mR M x0 18)) 18 X cdX12 i_X12_split_X12 (by decide) k_X12_split_f3 rfl dX12_split_5 rfl hT74 rfl ?_
  obtain ⟨a75, ha75, hf⟩ := dr_e hf
  obtain ⟨hT76, hf⟩ := ck_e hf
  refine g_getN (ci := 12) (w := vR (mR M a75 11)) 11 X cdX14 i_X12_split_X14 (by decide) (gNw X _ kn_X12_81) rfl dX12_split_8 ha75 hT76 rfl ?_
  obtain ⟨a77, ha77, hf⟩ := dr_e hf
  obtain ⟨hT78, hf⟩ := ck_e hf
  refine g_getN (ci := 11) (w := vR (mR M a77 13)) 13 X cdX13 i_X12_split_X13 (by decide) (gNw X _ kn_X12_160) rfl dX12_split_11 ha77 hT78 rfl ?_
  refine g_iload_n X dX12_split_14 rfl rfl ?_
  obtain ⟨a79, ha79, hf⟩ := dr_e hf
  obtain ⟨hT80, hf⟩ := ck_e hf
  obtain ⟨hg81, hf⟩ := ck_e hf
  refine g_iald X dX12_split_15 ha79 hT80 hg81 ?_
  refine g_istore (lv' := [(4, vI (mI M a79 x1.toNatClampNeg)), (3, vI (0 : Int32)), (2, vI (0 : Int32)), (0, vR (some x0)), (1, vI x1)]) X dX12_split_16 (by decide) rfl ?_
  refine g_iconst (v := (0 : Int32)) X dX12_split_18 (by decide) ?_
  refine g_istore (lv' := [(5, vI (0 : Int32)), (4, vI (mI M a79 x1.toNatClampNeg)), (3, vI (0 : Int32)), (2, vI (0 : Int32)), (0, vR (some x0)), (1, vI x1)]) X dX12_split_19 (by decide) rfl ?_
  refine g_sub (lvsub_of _ _ [4, 5, 3, 2, 1, 0] rfl) ?_
  exact tl_X12_split_21 X hr _ _ _ _ _ _ _ _ hf hK
set_option maxHeartbeats 4000000 in
set_option maxRecDepth 100000 in
theorem m_X12_split (l : Launch) {D : va_G} {cy : Nat → ClassId} {B : Nat} {H0 : Heap} {Z : Nat → Nat} {M M1 : gMem} {x0 : Nat} {x1 : Int32} {r : Unit} (hf : f_X12_split M x0 x1 = some (r, M1)) : Met l yX12_split wsX12_split rX12_split (va_Pc (Value.ref x0 :: List.map gv [vI x1]) (gPre D cy B H0 (gSt Z B H0) M)) (gQ D cy B H0 none M1) 0 0 (gA B) := by
  refine Met.ofW (cc := cX12_split) (maxL := 8) (ret := none) (by decide) rfl ?_
  intro p e s m args below meth c s₁ Bd hml hv
  obtain ⟨rfl, hW, hKK, hFs⟩ := hv
  have X : gX p s m _ meth c D cy B (gSt Z B H0) RX12 cX12_split wsX12_split 8 := ⟨Bd.exec, Bd.bytes, atoms_spec (ws := wsX12_split) Bd.pre, findClass_of_methodNamed Bd.named, hml, hKK, by rw [hW.1]; exact hW.2.1, Bd.notSynchronized, hFs⟩
  have hr := Bd.returns
  have hl := lv_entry ([.ref x0, .int x1]) (n := 8) (Nat.le_of_ble_eq_true rfl)
  show W p l e rX12_split s m _ below meth c s.heap [] 0 0 _ (entryFrame m ([.ref x0, .int x1] : List Value).toArray 8)
  rw [lg_entry_eq]
  generalize (lg_sl ([.ref x0, .int x1]) ++ List.replicate (8 - (lg_sl ([.ref x0, .int x1])).length) Slot.unset).toArray = ls at hl ⊢
  have hl : lv_has ls 8 (List.map gq [(0, vR (some x0)), (1, vI x1)]) := hl
  exact t_X12_split_0 X hr _ _ _ _ hf rfl s.heap [] ls hW va_S.rf (lv_has_sub hl (lvsub_of _ _ [0, 1] rfl))
end
