section
variable {p : Program} {l : Launch} {e : Env} {s : State} {m : MethodId} {args : Array Value} {below : List Frame} {meth : Method} {c : Code} {D : va_G} {cy : Nat → ClassId} {B : Nat} {H0 : Heap} {Z : Nat → Nat}
/-! ## TideLots$Shore.callBoatsHome()V -/
theorem dX7_callBoatsHome_0 : decode cX7_callBoatsHome 0 = .ok (.iconst 0, 1) := by decide +kernel
theorem dX7_callBoatsHome_1 : decode cX7_callBoatsHome 1 = .ok (.istore_n 1, 1) := by decide +kernel
theorem dX7_callBoatsHome_2 : decode cX7_callBoatsHome 2 = .ok (.iload_n 1, 1) := by decide +kernel
theorem dX7_callBoatsHome_3 : decode cX7_callBoatsHome 3 = .ok (.aload_n 0, 1) := by decide +kernel
theorem dX7_callBoatsHome_4 : decode cX7_callBoatsHome 4 = .ok (.getfield 72, 3) := by decide +kernel
theorem dX7_callBoatsHome_7 : decode cX7_callBoatsHome 7 = .ok (.if_icmp .ge 19, 3) := by decide +kernel
theorem dX7_callBoatsHome_10 : decode cX7_callBoatsHome 10 = .ok (.aload_n 0, 1) := by decide +kernel
theorem dX7_callBoatsHome_11 : decode cX7_callBoatsHome 11 = .ok (.getfield 17, 3) := by decide +kernel
theorem dX7_callBoatsHome_14 : decode cX7_callBoatsHome 14 = .ok (.iload_n 1, 1) := by decide +kernel
theorem dX7_callBoatsHome_15 : decode cX7_callBoatsHome 15 = .ok (.aaload, 1) := by decide +kernel
theorem dX7_callBoatsHome_16 : decode cX7_callBoatsHome 16 = .ok (.iconst 0, 1) := by decide +kernel
theorem dX7_callBoatsHome_17 : decode cX7_callBoatsHome 17 = .ok (.putfield 156, 3) := by decide +kernel
theorem dX7_callBoatsHome_20 : decode cX7_callBoatsHome 20 = .ok (.iinc 1 1, 3) := by decide +kernel
theorem dX7_callBoatsHome_23 : decode cX7_callBoatsHome 23 = .ok (.goto (-21), 3) := by decide +kernel
theorem dX7_callBoatsHome_26 : decode cX7_callBoatsHome 26 = .ok (.return_, 1) := by decide +kernel
theorem k_X7_callBoatsHome_f72 : Cond.fieldLink RX7 72 "TideLots$Shore" "groundCount" "I" ∈ wsX7_callBoatsHome := by decide +kernel
theorem i_X7_callBoatsHome_X7 : ∀ w ∈ u_ws RX7 TX7 17, w ∈ wsX7_callBoatsHome := by decide +kernel
theorem k_X7_callBoatsHome_f17 : Cond.fieldLink RX7 17 "TideLots$Shore" "grounds" "[LTideLots$Ground;" ∈ wsX7_callBoatsHome := by decide +kernel
theorem k_X7_callBoatsHome_f156 : Cond.fieldLink RX7 156 "TideLots$Ground" "boats" "I" ∈ wsX7_callBoatsHome := by decide +kernel
theorem i_X7_callBoatsHome_X3 : ∀ w ∈ u_ws RX3 TX3 4, w ∈ wsX7_callBoatsHome := by decide +kernel
abbrev rX7_callBoatsHome : Room := { frames := 0, cells := 0, slots := 0, locals := 0 }
noncomputable def bb_X7_callBoatsHome_2 (M : gMem) (x0 : Nat) (x1 : Int32) : Option ((gMem × Int32) ⊕ (Unit × gMem)) :=
  ck (mT M x0 = 7) <| (if (mI M x0 2) ≤ x1 then oI (some ((), M)) else dr ((mR M x0 6)) fun a3 => ck (mT M a3 = 23) <| ck (inb x1 (mL M a3)) <| dr ((mR M a3 x1.toNatClampNeg)) fun a6 => ck (mT M a6 = 3) <| lw (wI M a6 1 ((0 : Int32))) fun M8 => some (.inl (M8, (x1 + (1 : Int32)))))
noncomputable def lp_X7_callBoatsHome_2 (M : gMem) (x0 : Nat) (x1 : Int32) : Option (Unit × gMem) :=
  lp (fun (q : gMem × Int32) => bb_X7_callBoatsHome_2 q.1 x0 q.2) (M, x1)
noncomputable def b_X7_callBoatsHome_0 (M : gMem) (x0 : Nat) : Option (Unit × gMem) :=
  lp_X7_callBoatsHome_2 M x0 ((0 : Int32))
noncomputable def f_X7_callBoatsHome (M : gMem) (x0 : Nat) : Option (Unit × gMem) :=
  b_X7_callBoatsHome_0 M x0
set_option maxHeartbeats 4000000 in
set_option maxRecDepth 100000 in
theorem tb_X7_callBoatsHome_2 (X : gX p s m args meth c D cy B (gSt Z B H0) RX7 cX7_callBoatsHome wsX7_callBoatsHome 2) (hr : meth.sig.returnType = none) {Q : State → Prop} : ∀ (M : gMem) (x0 : Nat) (x1 : Int32) (z : (gMem × Int32) ⊕ (Unit × gMem)), bb_X7_callBoatsHome_2 M x0 x1 = some z → (Sum.elim (fun (q : gMem × Int32) => gGo p l e rX7_callBoatsHome s m args below meth c D cy B H0 2 0 0 Q 2 [(0, vR (some x0)), (1, vI q.2)] [] q.1) (fun (r : Unit × gMem) => Q = gMQ below D cy B H0 args s 0 0 none r.2)) z → gGo p l e rX7_callBoatsHome s m args below meth c D cy B H0 2 0 0 Q 2 [(0, vR (some x0)), (1, vI x1)] [] M := by
  intro M x0 x1 z hf hK
  unfold bb_X7_callBoatsHome_2 at hf
  refine g_iload_n X dX7_callBoatsHome_2 rfl rfl ?_
  refine g_aload_n X dX7_callBoatsHome_3 rfl rfl ?_
  obtain ⟨hT1, hf⟩ := ck_e hf
  refine g_get (ci := 6) (v := vI (mI M x0 2)) 2 X cdX7 i_X7_callBoatsHome_X7 (by decide) k_X7_callBoatsHome_f72 rfl dX7_callBoatsHome_4 rfl hT1 rfl ?_
  refine g_icmp_ge (tgt := 26) X dX7_callBoatsHome_7 (by decide) (fun hc => ?_) (fun hc => ?_)
  · have hf := ife_t hc hf
    obtain ⟨w2, hw2, hz2⟩ := oI_e hf
    subst hz2
    have hf := hw2
    cases hf
    refine g_eqQ hK ?_
    exact g_vret X hr dX7_callBoatsHome_26
  · have hf := ife_f hc hf
    refine g_aload_n X dX7_callBoatsHome_10 rfl rfl ?_
    refine g_get (ci := 6) (v := vR (mR M x0 6)) 6 X cdX7 i_X7_callBoatsHome_X7 (by decide) k_X7_callBoatsHome_f17 rfl dX7_callBoatsHome_11 rfl hT1 rfl ?_
    refine g_iload_n X dX7_callBoatsHome_14 rfl rfl ?_
    obtain ⟨a3, ha3, hf⟩ := dr_e hf
    obtain ⟨hT4, hf⟩ := ck_e hf
    obtain ⟨hg5, hf⟩ := ck_e hf
    refine g_aald (t0 := 3) X dX7_callBoatsHome_15 ha3 hT4 (by decide) rfl hg5 ?_
    refine g_iconst (v := (0 : Int32)) X dX7_callBoatsHome_16 (by decide) ?_
    obtain ⟨a6, ha6, hf⟩ := dr_e hf
    obtain ⟨hT7, hf⟩ := ck_e hf
    refine g_putI (ci := 2) 1 X cdX3 i_X7_callBoatsHome_X3 (by decide) k_X7_callBoatsHome_f156 rfl dX7_callBoatsHome_17 ha6 hT7 (Or.inl rfl) rfl rfl rfl ?_
    obtain ⟨M8, hM8, hf⟩ := lw_e hf
    rw [← hM8]
    have hT9 : mT M8 x0 = 7 := by rw [hM8]; exact hT1
    have hT10 : mT M8 a3 = 23 := by rw [hM8]; exact hT4
    have hT11 : mT M8 a6 = 3 := by rw [hM8]; exact hT7
    refine g_iinc (v := (1 : Int32)) (lv' := [(1, vI (x1 + (1 : Int32))), (0, vR (some x0))]) X dX7_callBoatsHome_20 rfl (by decide) (by decide) rfl ?_
    refine g_goto (tgt := 2) X dX7_callBoatsHome_23 (by decide) ?_
    cases hf
    refine g_sub (lvsub_of _ _ [1, 0] rfl) ?_
    exact hK
set_option maxHeartbeats 4000000 in
set_option maxRecDepth 100000 in
theorem tl_X7_callBoatsHome_2 (X : gX p s m args meth c D cy B (gSt Z B H0) RX7 cX7_callBoatsHome wsX7_callBoatsHome 2) (hr : meth.sig.returnType = none) {Q : State → Prop} : ∀ (M : gMem) (x0 : Nat) (x1 : Int32) (z : Unit × gMem), lp_X7_callBoatsHome_2 M x0 x1 = some z → (fun (r : Unit × gMem) => Q = gMQ below D cy B H0 args s 0 0 none r.2) z → gGo p l e rX7_callBoatsHome s m args below meth c D cy B H0 2 0 0 Q 2 [(0, vR (some x0)), (1, vI x1)] [] M := by
  intro M x0 x1 z hf hK
  refine lp_ind (P := (fun (q : gMem × Int32) (z : Unit × gMem) => (fun (r : Unit × gMem) => Q = gMQ below D cy B H0 args s 0 0 none r.2) z → gGo p l e rX7_callBoatsHome s m args below meth c D cy B H0 2 0 0 Q 2 [(0, vR (some x0)), (1, vI q.2)] [] q.1)) (fun q z hq => ?_) _ _ hf hK
  intro hK
  obtain ⟨w, hw, hm⟩ := hq
  refine tb_X7_callBoatsHome_2 X hr _ _ _ w hw ?_
  cases w with
  | inl a => exact hm hK
  | inr b => cases hm; exact hK
set_option maxHeartbeats 4000000 in
set_option maxRecDepth 100000 in
theorem t_X7_callBoatsHome_0 (X : gX p s m args meth c D cy B (gSt Z B H0) RX7 cX7_callBoatsHome wsX7_callBoatsHome 2) (hr : meth.sig.returnType = none) {Q : State → Prop} : ∀ (M : gMem) (x0 : Nat) (z : Unit × gMem), b_X7_callBoatsHome_0 M x0 = some z → (fun (r : Unit × gMem) => Q = gMQ below D cy B H0 args s 0 0 none r.2) z → gGo p l e rX7_callBoatsHome s m args below meth c D cy B H0 2 0 0 Q 0 [(0, vR (some x0))] [] M := by
  intro M x0 z hf hK
  unfold b_X7_callBoatsHome_0 at hf
  refine g_iconst (v := (0 : Int32)) X dX7_callBoatsHome_0 (by decide) ?_
  refine g_istore_n (lv' := [(1, vI (0 : Int32)), (0, vR (some x0))]) X dX7_callBoatsHome_1 rfl (by decide) rfl ?_
  refine g_sub (lvsub_of _ _ [1, 0] rfl) ?_
  exact tl_X7_callBoatsHome_2 X hr _ _ _ _ hf hK
set_option maxHeartbeats 4000000 in
set_option maxRecDepth 100000 in
theorem m_X7_callBoatsHome (l : Launch) {D : va_G} {cy : Nat → ClassId} {B : Nat} {H0 : Heap} {Z : Nat → Nat} {M M1 : gMem} {x0 : Nat} {r : Unit} (hf : f_X7_callBoatsHome M x0 = some (r, M1)) : Met l yX7_callBoatsHome wsX7_callBoatsHome rX7_callBoatsHome (va_Pc (Value.ref x0 :: List.map gv []) (gPre D cy B H0 (gSt Z B H0) M)) (gQ D cy B H0 none M1) 0 0 (gA B) := by
  refine Met.ofW (cc := cX7_callBoatsHome) (maxL := 2) (ret := none) (by decide) rfl ?_
  intro p e s m args below meth c s₁ Bd hml hv
  obtain ⟨rfl, hW, hKK, hFs⟩ := hv
  have X : gX p s m _ meth c D cy B (gSt Z B H0) RX7 cX7_callBoatsHome wsX7_callBoatsHome 2 := ⟨Bd.exec, Bd.bytes, atoms_spec (ws := wsX7_callBoatsHome) Bd.pre, findClass_of_methodNamed Bd.named, hml, hKK, by rw [hW.1]; exact hW.2.1, Bd.notSynchronized, hFs⟩
  have hr := Bd.returns
  have hl := lv_entry ([.ref x0]) (n := 2) (Nat.le_of_ble_eq_true rfl)
  show W p l e rX7_callBoatsHome s m _ below meth c s.heap [] 0 0 _ (entryFrame m ([.ref x0] : List Value).toArray 2)
  rw [lg_entry_eq]
  generalize (lg_sl ([.ref x0]) ++ List.replicate (2 - (lg_sl ([.ref x0])).length) Slot.unset).toArray = ls at hl ⊢
  have hl : lv_has ls 2 (List.map gq [(0, vR (some x0))]) := hl
  exact t_X7_callBoatsHome_0 X hr _ _ _ hf rfl s.heap [] ls hW va_S.rf (lv_has_sub hl (lvsub_of _ _ [0] rfl))
/-! ## TideLots$Shore.isSpared(II)Z -/
theorem dX7_isSpared_0 : decode cX7_isSpared 0 = .ok (.aload_n 0, 1) := by decide +kernel
theorem dX7_isSpared_1 : decode cX7_isSpared 1 = .ok (.getfield 23, 3) := by decide +kernel
theorem dX7_isSpared_4 : decode cX7_isSpared 4 = .ok (.iload_n 2, 1) := by decide +kernel
theorem dX7_isSpared_5 : decode cX7_isSpared 5 = .ok (.aaload, 1) := by decide +kernel
theorem dX7_isSpared_6 : decode cX7_isSpared 6 = .ok (.getfield 125, 3) := by decide +kernel
theorem dX7_isSpared_9 : decode cX7_isSpared 9 = .ok (.ifCond .eq 5, 3) := by decide +kernel
theorem dX7_isSpared_12 : decode cX7_isSpared 12 = .ok (.iconst 0, 1) := by decide +kernel
theorem dX7_isSpared_13 : decode cX7_isSpared 13 = .ok (.ireturn, 1) := by decide +kernel
theorem dX7_isSpared_14 : decode cX7_isSpared 14 = .ok (.iconst 0, 1) := by decide +kernel
theorem dX7_isSpared_15 : decode cX7_isSpared 15 = .ok (.istore_n 3, 1) := by decide +kernel
theorem dX7_isSpared_16 : decode cX7_isSpared 16 = .ok (.iload_n 3, 1) := by decide +kernel
theorem dX7_isSpared_17 : decode cX7_isSpared 17 = .ok (.aload_n 0, 1) := by decide +kernel
theorem dX7_isSpared_18 : decode cX7_isSpared 18 = .ok (.getfield 81, 3) := by decide +kernel
theorem dX7_isSpared_21 : decode cX7_isSpared 21 = .ok (.if_icmp .ge 67, 3) := by decide +kernel
theorem dX7_isSpared_24 : decode cX7_isSpared 24 = .ok (.aload_n 0, 1) := by decide +kernel
theorem dX7_isSpared_25 : decode cX7_isSpared 25 = .ok (.getfield 35, 3) := by decide +kernel
theorem dX7_isSpared_28 : decode cX7_isSpared 28 = .ok (.iload_n 3, 1) := by decide +kernel
theorem dX7_isSpared_29 : decode cX7_isSpared 29 = .ok (.aaload, 1) := by decide +kernel
theorem dX7_isSpared_30 : decode cX7_isSpared 30 = .ok (.astore 4, 2) := by decide +kernel
theorem dX7_isSpared_32 : decode cX7_isSpared 32 = .ok (.aload 4, 2) := by decide +kernel
theorem dX7_isSpared_34 : decode cX7_isSpared 34 = .ok (.getfield 182, 3) := by decide +kernel
theorem dX7_isSpared_37 : decode cX7_isSpared 37 = .ok (.iload_n 1, 1) := by decide +kernel
theorem dX7_isSpared_38 : decode cX7_isSpared 38 = .ok (.if_icmp .ne 44, 3) := by decide +kernel
theorem dX7_isSpared_41 : decode cX7_isSpared 41 = .ok (.aload 4, 2) := by decide +kernel
theorem dX7_isSpared_43 : decode cX7_isSpared 43 = .ok (.iload_n 2, 1) := by decide +kernel
theorem dX7_isSpared_44 : decode cX7_isSpared 44 = .ok (.invokevirtual 183, 3) := by decide +kernel
theorem dX7_isSpared_47 : decode cX7_isSpared 47 = .ok (.ifCond .eq 35, 3) := by decide +kernel
theorem dX7_isSpared_50 : decode cX7_isSpared 50 = .ok (.aload_n 0, 1) := by decide +kernel
theorem dX7_isSpared_51 : decode cX7_isSpared 51 = .ok (.getfield 17, 3) := by decide +kernel
theorem dX7_isSpared_54 : decode cX7_isSpared 54 = .ok (.iload_n 1, 1) := by decide +kernel
theorem dX7_isSpared_55 : decode cX7_isSpared 55 = .ok (.aaload, 1) := by decide +kernel
theorem dX7_isSpared_56 : decode cX7_isSpared 56 = .ok (.invokevirtual 112, 3) := by decide +kernel
theorem dX7_isSpared_59 : decode cX7_isSpared 59 = .ok (.aload_n 0, 1) := by decide +kernel
theorem dX7_isSpared_60 : decode cX7_isSpared 60 = .ok (.getfield 42, 3) := by decide +kernel
theorem dX7_isSpared_63 : decode cX7_isSpared 63 = .ok (.aload 4, 2) := by decide +kernel
theorem dX7_isSpared_65 : decode cX7_isSpared 65 = .ok (.getfield 187, 3) := by decide +kernel
theorem dX7_isSpared_68 : decode cX7_isSpared 68 = .ok (.aload 4, 2) := by decide +kernel
theorem dX7_isSpared_70 : decode cX7_isSpared 70 = .ok (.getfield 190, 3) := by decide +kernel
theorem dX7_isSpared_73 : decode cX7_isSpared 73 = .ok (.aload_n 0, 1) := by decide +kernel
theorem dX7_isSpared_74 : decode cX7_isSpared 74 = .ok (.invokevirtual 174, 3) := by decide +kernel
theorem dX7_isSpared_77 : decode cX7_isSpared 77 = .ok (.if_icmp .ge 5, 3) := by decide +kernel
theorem dX7_isSpared_80 : decode cX7_isSpared 80 = .ok (.iconst 1, 1) := by decide +kernel
theorem dX7_isSpared_81 : decode cX7_isSpared 81 = .ok (.ireturn, 1) := by decide +kernel
theorem dX7_isSpared_82 : decode cX7_isSpared 82 = .ok (.iinc 3 1, 3) := by decide +kernel
theorem dX7_isSpared_85 : decode cX7_isSpared 85 = .ok (.goto (-69), 3) := by decide +kernel
theorem dX7_isSpared_88 : decode cX7_isSpared 88 = .ok (.iconst 0, 1) := by decide +kernel
theorem dX7_isSpared_89 : decode cX7_isSpared 89 = .ok (.ireturn, 1) := by decide +kernel
set_option maxRecDepth 20000 in
theorem ggX7_isSpared_X5_has : GoodIn wsX7_isSpared wsX5_has := goodIn_r _ [14, 15, 16, 91, 92, 93, 94, 95, 96, 97, 98] (by decide +kernel) (by decide +kernel)
set_option maxRecDepth 20000 in
theorem gX7_isSpared_X5_has : GoodIn wsX7_isSpared (wsV RX7 183 RX5 yX5_has wsX5_has) := goodIn_app (goodIn_of _ (by decide +kernel)) ggX7_isSpared_X5_has
set_option maxRecDepth 20000 in
theorem ggX7_isSpared_X3_allFish : GoodIn wsX7_isSpared wsX3_allFish := goodIn_r _ [21, 22, 99, 100, 101, 102] (by decide +kernel) (by decide +kernel)
set_option maxRecDepth 20000 in
theorem gX7_isSpared_X3_allFish : GoodIn wsX7_isSpared (wsV RX7 112 RX3 yX3_allFish wsX3_allFish) := goodIn_app (goodIn_of _ (by decide +kernel)) ggX7_isSpared_X3_allFish
set_option maxRecDepth 20000 in
theorem ggX7_isSpared_X9_reckon : GoodIn wsX7_isSpared wsX9_reckon := goodIn_r _ [27, 28, 29, 30, 31, 32, 33, 34, 35, 36, 37, 38, 39, 40, 41, 42, 26, 43, 44, 45, 46, 47, 48, 49, 50, 51, 52, 18, 19, 20, 21, 22, 53, 54, 55, 56, 57, 58, 59, 60, 61, 62, 103, 104, 105, 106, 63, 64, 65, 66, 67, 68, 69, 70, 71, 72, 73, 74, 75, 76, 77, 78, 79, 80, 81, 82, 83, 84, 85, 86, 87, 88, 89, 90, 99, 100, 101, 102] (by decide +kernel) (by decide +kernel)
set_option maxRecDepth 20000 in
theorem gX7_isSpared_X9_reckon : GoodIn wsX7_isSpared (wsV RX7 174 RX9 yX9_reckon wsX9_reckon) := goodIn_app (goodIn_of _ (by decide +kernel)) ggX7_isSpared_X9_reckon
theorem k_X7_isSpared_f81 : Cond.fieldLink RX7 81 "TideLots$Shore" "pactCount" "I" ∈ wsX7_isSpared := by decide +kernel
theorem i_X7_isSpared_X7 : ∀ w ∈ u_ws RX7 TX7 17, w ∈ wsX7_isSpared := by decide +kernel
theorem k_X7_isSpared_f35 : Cond.fieldLink RX7 35 "TideLots$Shore" "pacts" "[LTideLots$Pact;" ∈ wsX7_isSpared := by decide +kernel
theorem k_X7_isSpared_f182 : Cond.fieldLink RX7 182 "TideLots$Pact" "ground" "I" ∈ wsX7_isSpared := by decide +kernel
theorem i_X7_isSpared_X5 : ∀ w ∈ u_ws RX5 TX5 8, w ∈ wsX7_isSpared := by decide +kernel
theorem k_X7_isSpared_f17 : Cond.fieldLink RX7 17 "TideLots$Shore" "grounds" "[LTideLots$Ground;" ∈ wsX7_isSpared := by decide +kernel
theorem k_X7_isSpared_f42 : Cond.fieldLink RX7 42 "TideLots$Shore" "sums" "LTideLots$Sums;" ∈ wsX7_isSpared := by decide +kernel
theorem k_X7_isSpared_f187 : Cond.fieldLink RX7 187 "TideLots$Pact" "sumStart" "I" ∈ wsX7_isSpared := by decide +kernel
theorem k_X7_isSpared_f190 : Cond.fieldLink RX7 190 "TideLots$Pact" "sumEnd" "I" ∈ wsX7_isSpared := by decide +kernel
theorem k_X7_isSpared_f23 : Cond.fieldLink RX7 23 "TideLots$Shore" "fishers" "[LTideLots$Fisher;" ∈ wsX7_isSpared := by decide +kernel
theorem k_X7_isSpared_f125 : Cond.fieldLink RX7 125 "TideLots$Fisher" "isCheat" "Z" ∈ wsX7_isSpared := by decide +kernel
theorem i_X7_isSpared_X1 : ∀ w ∈ u_ws RX1 TX1 11, w ∈ wsX7_isSpared := by decide +kernel
abbrev rX7_isSpared : Room := { frames := 3, cells := 0, slots := 0, locals := 69 }
noncomputable def b_X7_isSpared_82 (Z : Nat → Nat) (M : gMem) (x0 : Nat) (x1 : Int32) (x2 : Int32) (x3 : Int32) : Option ((gMem × Int32) ⊕ (Int32 × gMem)) :=
  some (.inl (M, (x3 + (1 : Int32))))
noncomputable def bb_X7_isSpared_16 (Z : Nat → Nat) (M : gMem) (x0 : Nat) (x1 : Int32) (x2 : Int32) (x3 : Int32) : Option ((gMem × Int32) ⊕ (Int32 × gMem)) :=
  ck (mT M x0 = 7) <| (if (mI M x0 5) ≤ x3 then oI (some ((0 : Int32), M)) else dr ((mR M x0 9)) fun a3 => ck (mT M a3 = 26) <| ck (inb x3 (mL M a3)) <| dr ((mR M a3 x3.toNatClampNeg)) fun a6 => ck (mT M a6 = 5) <| (if (mI M a6 0) = x1 then bd (f_X5_has M a6 x2) fun r8 M8 => (if r8 = 0 then b_X7_isSpared_82 Z M8 x0 x1 x2 x3 else ck (mT M8 x0 = 7) <| dr ((mR M8 x0 6)) fun a10 => ck (mT M8 a10 = 23) <| ck (inb x1 (mL M8 a10)) <| dr ((mR M8 a10 x1.toNatClampNeg)) fun a14 => ck (mT M8 a14 = 3) <| bd (f_X3_allFish M8 a14) fun r13 M13 => ck (mT M13 x0 = 7) <| ck (mT M13 a6 = 5) <| dr ((mR M13 x0 10)) fun a19 => ck (mT M13 a19 = 8) <| bd (f_X9_reckon Z M13 a19 ((mI M13 a6 1)) ((mI M13 a6 2)) ((some x0))) fun r18 M18 => (if r18 ≤ r13 then b_X7_isSpared_82 Z M18 x0 x1 x2 x3 else oI (some ((1 : Int32), M18)))) else b_X7_isSpared_82 Z M x0 x1 x2 x3))
noncomputable def lp_X7_isSpared_16 (Z : Nat → Nat) (M : gMem) (x0 : Nat) (x1 : Int32) (x2 : Int32) (x3 : Int32) : Option (Int32 × gMem) :=
  lp (fun (q : gMem × Int32) => bb_X7_isSpared_16 Z q.1 x0 x1 x2 q.2) (M, x3)
noncomputable def b_X7_isSpared_0 (Z : Nat → Nat) (M : gMem) (x0 : Nat) (x1 : Int32) (x2 : Int32) : Option (Int32 × gMem) :=
  ck (mT M x0 = 7) <| dr ((mR M x0 7)) fun a23 => ck (mT M a23 = 24) <| ck (inb x2 (mL M a23)) <| dr ((mR M a23 x2.toNatClampNeg)) fun a26 => ck (mT M a26 = 1) <| (if (mI M a26 9) = 0 then lp_X7_isSpared_16 Z M x0 x1 x2 ((0 : Int32)) else some ((0 : Int32), M))
noncomputable def f_X7_isSpared (Z : Nat → Nat) (M : gMem) (x0 : Nat) (x1 : Int32) (x2 : Int32) : Option (Int32 × gMem) :=
  b_X7_isSpared_0 Z M x0 x1 x2
set_option maxHeartbeats 4000000 in
set_option maxRecDepth 100000 in
theorem t_X7_isSpared_82 (X : gX p s m args meth c D cy B (gSt Z B H0) RX7 cX7_isSpared wsX7_isSpared 5) (hr : meth.sig.returnType = (some .boolean)) {Q : State → Prop} : ∀ (M : gMem) (x0 : Nat) (x1 : Int32) (x2 : Int32) (x3 : Int32) (z : (gMem × Int32) ⊕ (Int32 × gMem)), b_X7_isSpared_82 Z M x0 x1 x2 x3 = some z → (Sum.elim (fun (q : gMem × Int32) => gGo p l e rX7_isSpared s m args below meth c D cy B H0 5 0 0 Q 16 [(0, vR (some x0)), (1, vI x1), (2, vI x2), (3, vI q.2)] [] q.1) (fun (r : Int32 × gMem) => Q = gMQ below D cy B H0 args s 0 0 (some (vI r.1)) r.2)) z → gGo p l e rX7_isSpared s m args below meth c D cy B H0 5 0 0 Q 82 [(0, vR (some x0)), (1, vI x1), (2, vI x2), (3, vI x3)] [] M := by
  intro M x0 x1 x2 x3 z hf hK
  unfold b_X7_isSpared_82 at hf
  refine g_iinc (v := (1 : Int32)) (lv' := [(3, vI (x3 + (1 : Int32))), (0, vR (some x0)), (1, vI x1), (2, vI x2)]) X dX7_isSpared_82 rfl (by decide) (by decide) rfl ?_
  refine g_goto (tgt := 16) X dX7_isSpared_85 (by decide) ?_
  cases hf
  refine g_sub (lvsub_of _ _ [1, 2, 3, 0] rfl) ?_
  exact hK
set_option maxHeartbeats 4000000 in
set_option maxRecDepth 100000 in
theorem tb_X7_isSpared_16 (X : gX p s m args meth c D cy B (gSt Z B H0) RX7 cX7_isSpared wsX7_isSpared 5) (hr : meth.sig.returnType = (some .boolean)) {Q : State → Prop} : ∀ (M : gMem) (x0 : Nat) (x1 : Int32) (x2 : Int32) (x3 : Int32) (z : (gMem × Int32) ⊕ (Int32 × gMem)), bb_X7_isSpared_16 Z M x0 x1 x2 x3 = some z → (Sum.elim (fun (q : gMem × Int32) => gGo p l e rX7_isSpared s m args below meth c D cy B H0 5 0 0 Q 16 [(0, vR (some x0)), (1, vI x1), (2, vI x2), (3, vI q.2)] [] q.1) (fun (r : Int32 × gMem) => Q = gMQ below D cy B H0 args s 0 0 (some (vI r.1)) r.2)) z → gGo p l e rX7_isSpared s m args below meth c D cy B H0 5 0 0 Q 16 [(0, vR (some x0)), (1, vI x1), (2, vI x2), (3, vI x3)] [] M := by
  intro M x0 x1 x2 x3 z hf hK
  unfold bb_X7_isSpared_16 at hf
  refine g_iload_n X dX7_isSpared_16 rfl rfl ?_
  refine g_aload_n X dX7_isSpared_17 rfl rfl ?_
  obtain ⟨hT1, hf⟩ := ck_e hf
  refine g_get (ci := 6) (v := vI (mI M x0 5)) 5 X cdX7 i_X7_isSpared_X7 (by decide) k_X7_isSpared_f81 rfl dX7_isSpared_18 rfl hT1 rfl ?_
  refine g_icmp_ge (tgt := 88) X dX7_isSpared_21 (by decide) (fun hc => ?_) (fun hc => ?_)
  · have hf := ife_t hc hf
    refine g_iconst (v := (0 : Int32)) X dX7_isSpared_88 (by decide) ?_
    obtain ⟨w2, hw2, hz2⟩ := oI_e hf
    subst hz2
    have hf := hw2
    cases hf
    refine g_eqQ hK ?_
    exact g_zret X hr (gnb (Or.inl rfl)) dX7_isSpared_89
  · have hf := ife_f hc hf
    refine g_aload_n X dX7_isSpared_24 rfl rfl ?_
    refine g_get (ci := 6) (v := vR (mR M x0 9)) 9 X cdX7 i_X7_isSpared_X7 (by decide) k_X7_isSpared_f35 rfl dX7_isSpared_25 rfl hT1 rfl ?_
    refine g_iload_n X dX7_isSpared_28 rfl rfl ?_
    obtain ⟨a3, ha3, hf⟩ := dr_e hf
    obtain ⟨hT4, hf⟩ := ck_e hf
    obtain ⟨hg5, hf⟩ := ck_e hf
    refine g_aald (t0 := 6) X dX7_isSpared_29 ha3 hT4 (by decide) rfl hg5 ?_
    refine g_astore (lv' := [(4, vR (mR M a3 x3.toNatClampNeg)), (0, vR (some x0)), (1, vI x1), (2, vI x2), (3, vI x3)]) X dX7_isSpared_30 (by decide) rfl ?_
    refine g_aload X dX7_isSpared_32 rfl ?_
    obtain ⟨a6, ha6, hf⟩ := dr_e hf
    obtain ⟨hT7, hf⟩ := ck_e hf
    refine g_get (ci := 4) (v := vI (mI M a6 0)) 0 X cdX5 i_X7_isSpared_X5 (by decide) k_X7_isSpared_f182 rfl dX7_isSpared_34 ha6 hT7 rfl ?_
    refine g_iload_n X dX7_isSpared_37 rfl rfl ?_
    refine g_icmp_ne (tgt := 82) X dX7_isSpared_38 (by decide) (fun hc => ?_) (fun hc => ?_)
    · have hf := ife_f hc hf
      refine g_sub (lvsub_of _ _ [1, 2, 3, 4] rfl) ?_
      exact t_X7_isSpared_82 X hr _ _ _ _ _ _ hf hK
    · have hf := ife_t hc hf
      refine g_aload X dX7_isSpared_41 rfl ?_
      refine g_iload_n X dX7_isSpared_43 rfl rfl ?_
      obtain ⟨r8, M8, hq8, hf⟩ := bd_e hf
      refine g_callV (ci := 4) (b := a6) (As := [vI x2]) (st := []) (v := some (vI r8)) (M1 := M8) X (m_X5_has l hq8) (cwV 1 X.2.2.1 gX7_isSpared_X5_has rfl rfl rfl (by decide +kernel) ⟨Nat.le_of_ble_eq_true rfl, Nat.le_of_ble_eq_true rfl⟩) rfl rfl ha6 hT7 (by decide) rfl (Nat.le_of_ble_eq_true rfl) dX7_isSpared_44 ⟨by decide, by decide⟩ ?_
      refine g_if_eq (tgt := 82) X dX7_isSpared_47 (by decide) (fun hc => ?_) (fun hc => ?_)
      · have hf := ife_t hc hf
        refine g_sub (lvsub_of _ _ [1, 2, 3, 4] rfl) ?_
        exact t_X7_isSpared_82 X hr _ _ _ _ _ _ hf hK
      · have hf := ife_f hc hf
        refine g_aload_n X dX7_isSpared_50 rfl rfl ?_
        obtain ⟨hT9, hf⟩ := ck_e hf
        refine g_get (ci := 6) (v := vR (mR M8 x0 6)) 6 X cdX7 i_X7_isSpared_X7 (by decide) k_X7_isSpared_f17 rfl dX7_isSpared_51 rfl hT9 rfl ?_
        refine g_iload_n X dX7_isSpared_54 rfl rfl ?_
        obtain ⟨a10, ha10, hf⟩ := dr_e hf
        obtain ⟨hT11, hf⟩ := ck_e hf
        obtain ⟨hg12, hf⟩ := ck_e hf
        refine g_aald (t0 := 3) X dX7_isSpared_55 ha10 hT11 (by decide) rfl hg12 ?_
        obtain ⟨a14, ha14, hf⟩ := dr_e hf
        obtain ⟨hT15, hf⟩ := ck_e hf
        obtain ⟨r13, M13, hq13, hf⟩ := bd_e hf
        refine g_callV (ci := 2) (b := a14) (As := []) (st := []) (v := some (vI r13)) (M1 := M13) X (m_X3_allFish l hq13) (cwV 0 X.2.2.1 gX7_isSpared_X3_allFish rfl rfl rfl (by decide +kernel) ⟨Nat.le_of_ble_eq_true rfl, Nat.le_of_ble_eq_true rfl⟩) rfl rfl ha14 hT15 (by decide) rfl (Nat.le_of_ble_eq_true rfl) dX7_isSpared_56 ⟨by decide, by decide⟩ ?_
        refine g_aload_n X dX7_isSpared_59 rfl rfl ?_
        obtain ⟨hT16, hf⟩ := ck_e hf
        refine g_get (ci := 6) (v := vR (mR M13 x0 10)) 10 X cdX7 i_X7_isSpared_X7 (by decide) k_X7_isSpared_f42 rfl dX7_isSpared_60 rfl hT16 rfl ?_
        refine g_aload X dX7_isSpared_63 rfl ?_
        obtain ⟨hT17, hf⟩ := ck_e hf
        refine g_get (ci := 4) (v := vI (mI M13 a6 1)) 1 X cdX5 i_X7_isSpared_X5 (by decide) k_X7_isSpared_f187 rfl dX7_isSpared_65 ha6 hT17 rfl ?_
        refine g_aload X dX7_isSpared_68 rfl ?_
        refine g_get (ci := 4) (v := vI (mI M13 a6 2)) 2 X cdX5 i_X7_isSpared_X5 (by decide) k_X7_isSpared_f190 rfl dX7_isSpared_70 ha6 hT17 rfl ?_
        refine g_aload_n X dX7_isSpared_73 rfl rfl ?_
        obtain ⟨a19, ha19, hf⟩ := dr_e hf
        obtain ⟨hT20, hf⟩ := ck_e hf
        obtain ⟨r18, M18, hq18, hf⟩ := bd_e hf
        refine g_callV (ci := 7) (b := a19) (As := [vI (mI M13 a6 1), vI (mI M13 a6 2), vR (some x0)]) (st := [vI r13]) (v := some (vI r18)) (M1 := M18) X (m_X9_reckon l hq18) (cwV 3 X.2.2.1 gX7_isSpared_X9_reckon rfl rfl rfl (by decide +kernel) ⟨Nat.le_of_ble_eq_true rfl, Nat.le_of_ble_eq_true rfl⟩) rfl rfl ha19 hT20 (by decide) rfl (Nat.le_of_ble_eq_true rfl) dX7_isSpared_74 ⟨by decide, by decide⟩ ?_
        refine g_icmp_ge (tgt := 82) X dX7_isSpared_77 (by decide) (fun hc => ?_) (fun hc => ?_)
        · have hf := ife_t hc hf
          refine g_sub (lvsub_of _ _ [1, 2, 3, 4] rfl) ?_
          exact t_X7_isSpared_82 X hr _ _ _ _ _ _ hf hK
        · have hf := ife_f hc hf
          refine g_iconst (v := (1 : Int32)) X dX7_isSpared_80 (by decide) ?_
          obtain ⟨w21, hw21, hz21⟩ := oI_e hf
          subst hz21
          have hf := hw21
          cases hf
          refine g_eqQ hK ?_
          exact g_zret X hr (gnb (Or.inr rfl)) dX7_isSpared_81
set_option maxHeartbeats 4000000 in
set_option maxRecDepth 100000 in
theorem tl_X7_isSpared_16 (X : gX p s m args meth c D cy B (gSt Z B H0) RX7 cX7_isSpared wsX7_isSpared 5) (hr : meth.sig.returnType = (some .boolean)) {Q : State → Prop} : ∀ (M : gMem) (x0 : Nat) (x1 : Int32) (x2 : Int32) (x3 : Int32) (z : Int32 × gMem), lp_X7_isSpared_16 Z M x0 x1 x2 x3 = some z → (fun (r : Int32 × gMem) => Q = gMQ below D cy B H0 args s 0 0 (some (vI r.1)) r.2) z → gGo p l e rX7_isSpared s m args below meth c D cy B H0 5 0 0 Q 16 [(0, vR (some x0)), (1, vI x1), (2, vI x2), (3, vI x3)] [] M := by
  intro M x0 x1 x2 x3 z hf hK
  refine lp_ind (P := (fun (q : gMem × Int32) (z : Int32 × gMem) => (fun (r : Int32 × gMem) => Q = gMQ below D cy B H0 args s 0 0 (some (vI r.1)) r.2) z → gGo p l e rX7_isSpared s m args below meth c D cy B H0 5 0 0 Q 16 [(0, vR (some x0)), (1, vI x1), (2, vI x2), (3, vI q.2)] [] q.1)) (fun q z hq => ?_) _ _ hf hK
  intro hK
  obtain ⟨w, hw, hm⟩ := hq
  refine tb_X7_isSpared_16 X hr _ _ _ _ _ w hw ?_
  cases w with
  | inl a => exact hm hK
  | inr b => cases hm; exact hK
set_option maxHeartbeats 4000000 in
set_option maxRecDepth 100000 in
theorem t_X7_isSpared_0 (X : gX p s m args meth c D cy B (gSt Z B H0) RX7 cX7_isSpared wsX7_isSpared 5) (hr : meth.sig.returnType = (some .boolean)) {Q : State → Prop} : ∀ (M : gMem) (x0 : Nat) (x1 : Int32) (x2 : Int32) (z : Int32 × gMem), b_X7_isSpared_0 Z M x0 x1 x2 = some z → (fun (r : Int32 × gMem) => Q = gMQ below D cy B H0 args s 0 0 (some (vI r.1)) r.2) z → gGo p l e rX7_isSpared s m args below meth c D cy B H0 5 0 0 Q 0 [(0, vR (some x0)), (1, vI x1), (2, vI x2)] [] M := by
  intro M x0 x1 x2 z hf hK
  unfold b_X7_isSpared_0 at hf
  refine g_aload_n X dX7_isSpared_0 rfl rfl ?_
  obtain ⟨hT22, hf⟩ := ck_e hf
  refine g_get (ci := 6) (v := vR (mR M x0 7)) 7 X cdX7 i_X7_isSpared_X7 (by decide) k_X7_isSpared_f23 rfl dX7_isSpared_1 rfl hT22 rfl ?_
  refine g_iload_n X dX7_isSpared_4 rfl rfl ?_
  obtain ⟨a23, ha23, hf⟩ := dr_e hf
  obtain ⟨hT24, hf⟩ := ck_e hf
  obtain ⟨hg25, hf⟩ := ck_e hf
  refine g_aald (t0 := 4) X dX7_isSpared_5 ha23 hT24 (by decide) rfl hg25 ?_
  obtain ⟨a26, ha26, hf⟩ := dr_e hf
  obtain ⟨hT27, hf⟩ := ck_e hf
  refine g_get (ci := 0) (v := vI (mI M a26 9)) 9 X cdX1 i_X7_isSpared_X1 (by decide) k_X7_isSpared_f125 rfl dX7_isSpared_6 ha26 hT27 rfl ?_
  refine g_if_eq (tgt := 14) X dX7_isSpared_9 (by decide) (fun hc => ?_) (fun hc => ?_)
  · have hf := ife_t hc hf
    refine g_iconst (v := (0 : Int32)) X dX7_isSpared_14 (by decide) ?_
    refine g_istore_n (lv' := [(3, vI (0 : Int32)), (0, vR (some x0)), (1, vI x1), (2, vI x2)]) X dX7_isSpared_15 rfl (by decide) rfl ?_
    refine g_sub (lvsub_of _ _ [1, 2, 3, 0] rfl) ?_
    exact tl_X7_isSpared_16 X hr _ _ _ _ _ _ hf hK
  · have hf := ife_f hc hf
    refine g_iconst (v := (0 : Int32)) X dX7_isSpared_12 (by decide) ?_
    cases hf
    refine g_eqQ hK ?_
    exact g_zret X hr (gnb (Or.inl rfl)) dX7_isSpared_13
set_option maxHeartbeats 4000000 in
set_option maxRecDepth 100000 in
theorem m_X7_isSpared (l : Launch) {D : va_G} {cy : Nat → ClassId} {B : Nat} {H0 : Heap} {Z : Nat → Nat} {M M1 : gMem} {x0 : Nat} {x1 : Int32} {x2 : Int32} {r : Int32} (hf : f_X7_isSpared Z M x0 x1 x2 = some (r, M1)) : Met l yX7_isSpared wsX7_isSpared rX7_isSpared (va_Pc (Value.ref x0 :: List.map gv [vI x1, vI x2]) (gPre D cy B H0 (gSt Z B H0) M)) (gQ D cy B H0 (some (vI r)) M1) 0 0 (gA B) := by
  refine Met.ofW (cc := cX7_isSpared) (maxL := 5) (ret := (some .boolean)) (by decide) rfl ?_
  intro p e s m args below meth c s₁ Bd hml hv
  obtain ⟨rfl, hW, hKK, hFs⟩ := hv
  have X : gX p s m _ meth c D cy B (gSt Z B H0) RX7 cX7_isSpared wsX7_isSpared 5 := ⟨Bd.exec, Bd.bytes, atoms_spec (ws := wsX7_isSpared) Bd.pre, findClass_of_methodNamed Bd.named, hml, hKK, by rw [hW.1]; exact hW.2.1, Bd.notSynchronized, hFs⟩
  have hr := Bd.returns
  have hl := lv_entry ([.ref x0, .int x1, .int x2]) (n := 5) (Nat.le_of_ble_eq_true rfl)
  show W p l e rX7_isSpared s m _ below meth c s.heap [] 0 0 _ (entryFrame m ([.ref x0, .int x1, .int x2] : List Value).toArray 5)
  rw [lg_entry_eq]
  generalize (lg_sl ([.ref x0, .int x1, .int x2]) ++ List.replicate (5 - (lg_sl ([.ref x0, .int x1, .int x2])).length) Slot.unset).toArray = ls at hl ⊢
  have hl : lv_has ls 5 (List.map gq [(0, vR (some x0)), (1, vI x1), (2, vI x2)]) := hl
  exact t_X7_isSpared_0 X hr _ _ _ _ _ hf rfl s.heap [] ls hW va_S.rf (lv_has_sub hl (lvsub_of _ _ [0, 1, 2] rfl))
/-! ## TideLots$Shore.firstGo(I)I -/
theorem dX7_firstGo_0 : decode cX7_firstGo 0 = .ok (.iconst 0, 1) := by decide +kernel
theorem dX7_firstGo_1 : decode cX7_firstGo 1 = .ok (.istore_n 2, 1) := by decide +kernel
theorem dX7_firstGo_2 : decode cX7_firstGo 2 = .ok (.iload_n 2, 1) := by decide +kernel
theorem dX7_firstGo_3 : decode cX7_firstGo 3 = .ok (.aload_n 0, 1) := by decide +kernel
theorem dX7_firstGo_4 : decode cX7_firstGo 4 = .ok (.getfield 78, 3) := by decide +kernel
theorem dX7_firstGo_7 : decode cX7_firstGo 7 = .ok (.if_icmp .ge 113, 3) := by decide +kernel
theorem dX7_firstGo_10 : decode cX7_firstGo 10 = .ok (.aload_n 0, 1) := by decide +kernel
theorem dX7_firstGo_11 : decode cX7_firstGo 11 = .ok (.getfield 29, 3) := by decide +kernel
theorem dX7_firstGo_14 : decode cX7_firstGo 14 = .ok (.iload_n 2, 1) := by decide +kernel
theorem dX7_firstGo_15 : decode cX7_firstGo 15 = .ok (.aaload, 1) := by decide +kernel
theorem dX7_firstGo_16 : decode cX7_firstGo 16 = .ok (.astore_n 3, 1) := by decide +kernel
theorem dX7_firstGo_17 : decode cX7_firstGo 17 = .ok (.aload_n 3, 1) := by decide +kernel
theorem dX7_firstGo_18 : decode cX7_firstGo 18 = .ok (.getfield 159, 3) := by decide +kernel
theorem dX7_firstGo_21 : decode cX7_firstGo 21 = .ok (.iload_n 1, 1) := by decide +kernel
theorem dX7_firstGo_22 : decode cX7_firstGo 22 = .ok (.if_icmp .ne 92, 3) := by decide +kernel
theorem dX7_firstGo_25 : decode cX7_firstGo 25 = .ok (.aload_n 0, 1) := by decide +kernel
theorem dX7_firstGo_26 : decode cX7_firstGo 26 = .ok (.getfield 17, 3) := by decide +kernel
theorem dX7_firstGo_29 : decode cX7_firstGo 29 = .ok (.aload_n 3, 1) := by decide +kernel
theorem dX7_firstGo_30 : decode cX7_firstGo 30 = .ok (.getfield 162, 3) := by decide +kernel
theorem dX7_firstGo_33 : decode cX7_firstGo 33 = .ok (.aaload, 1) := by decide +kernel
theorem dX7_firstGo_34 : decode cX7_firstGo 34 = .ok (.getfield 156, 3) := by decide +kernel
theorem dX7_firstGo_37 : decode cX7_firstGo 37 = .ok (.aload_n 0, 1) := by decide +kernel
theorem dX7_firstGo_38 : decode cX7_firstGo 38 = .ok (.getfield 17, 3) := by decide +kernel
theorem dX7_firstGo_41 : decode cX7_firstGo 41 = .ok (.aload_n 3, 1) := by decide +kernel
theorem dX7_firstGo_42 : decode cX7_firstGo 42 = .ok (.getfield 162, 3) := by decide +kernel
theorem dX7_firstGo_45 : decode cX7_firstGo 45 = .ok (.aaload, 1) := by decide +kernel
theorem dX7_firstGo_46 : decode cX7_firstGo 46 = .ok (.getfield 165, 3) := by decide +kernel
theorem dX7_firstGo_49 : decode cX7_firstGo 49 = .ok (.if_icmp .lt 6, 3) := by decide +kernel
theorem dX7_firstGo_52 : decode cX7_firstGo 52 = .ok (.goto 62, 3) := by decide +kernel
theorem dX7_firstGo_55 : decode cX7_firstGo 55 = .ok (.aload_n 3, 1) := by decide +kernel
theorem dX7_firstGo_56 : decode cX7_firstGo 56 = .ok (.getfield 168, 3) := by decide +kernel
theorem dX7_firstGo_59 : decode cX7_firstGo 59 = .ok (.aload_n 3, 1) := by decide +kernel
theorem dX7_firstGo_60 : decode cX7_firstGo 60 = .ok (.getfield 171, 3) := by decide +kernel
theorem dX7_firstGo_63 : decode cX7_firstGo 63 = .ok (.if_icmp .eq 22, 3) := by decide +kernel
theorem dX7_firstGo_66 : decode cX7_firstGo 66 = .ok (.aload_n 0, 1) := by decide +kernel
theorem dX7_firstGo_67 : decode cX7_firstGo 67 = .ok (.getfield 42, 3) := by decide +kernel
theorem dX7_firstGo_70 : decode cX7_firstGo 70 = .ok (.aload_n 3, 1) := by decide +kernel
theorem dX7_firstGo_71 : decode cX7_firstGo 71 = .ok (.getfield 168, 3) := by decide +kernel
theorem dX7_firstGo_74 : decode cX7_firstGo 74 = .ok (.aload_n 3, 1) := by decide +kernel
theorem dX7_firstGo_75 : decode cX7_firstGo 75 = .ok (.getfield 171, 3) := by decide +kernel
theorem dX7_firstGo_78 : decode cX7_firstGo 78 = .ok (.aload_n 0, 1) := by decide +kernel
theorem dX7_firstGo_79 : decode cX7_firstGo 79 = .ok (.invokevirtual 174, 3) := by decide +kernel
theorem dX7_firstGo_82 : decode cX7_firstGo 82 = .ok (.ifCond .eq 7, 3) := by decide +kernel
theorem dX7_firstGo_85 : decode cX7_firstGo 85 = .ok (.iconst 1, 1) := by decide +kernel
theorem dX7_firstGo_86 : decode cX7_firstGo 86 = .ok (.goto 4, 3) := by decide +kernel
theorem dX7_firstGo_89 : decode cX7_firstGo 89 = .ok (.iconst 0, 1) := by decide +kernel
theorem dX7_firstGo_90 : decode cX7_firstGo 90 = .ok (.istore 4, 2) := by decide +kernel
theorem dX7_firstGo_92 : decode cX7_firstGo 92 = .ok (.iload 4, 2) := by decide +kernel
theorem dX7_firstGo_94 : decode cX7_firstGo 94 = .ok (.ifCond .eq 20, 3) := by decide +kernel
theorem dX7_firstGo_97 : decode cX7_firstGo 97 = .ok (.aload_n 0, 1) := by decide +kernel
theorem dX7_firstGo_98 : decode cX7_firstGo 98 = .ok (.aload_n 3, 1) := by decide +kernel
theorem dX7_firstGo_99 : decode cX7_firstGo 99 = .ok (.getfield 162, 3) := by decide +kernel
theorem dX7_firstGo_102 : decode cX7_firstGo 102 = .ok (.iload_n 1, 1) := by decide +kernel
theorem dX7_firstGo_103 : decode cX7_firstGo 103 = .ok (.invokevirtual 178, 3) := by decide +kernel
theorem dX7_firstGo_106 : decode cX7_firstGo 106 = .ok (.ifCond .ne 8, 3) := by decide +kernel
theorem dX7_firstGo_109 : decode cX7_firstGo 109 = .ok (.aload_n 3, 1) := by decide +kernel
theorem dX7_firstGo_110 : decode cX7_firstGo 110 = .ok (.getfield 162, 3) := by decide +kernel
theorem dX7_firstGo_113 : decode cX7_firstGo 113 = .ok (.ireturn, 1) := by decide +kernel
theorem dX7_firstGo_114 : decode cX7_firstGo 114 = .ok (.iinc 2 1, 3) := by decide +kernel
theorem dX7_firstGo_117 : decode cX7_firstGo 117 = .ok (.goto (-115), 3) := by decide +kernel
theorem dX7_firstGo_120 : decode cX7_firstGo 120 = .ok (.iconst (-1), 1) := by decide +kernel
theorem dX7_firstGo_121 : decode cX7_firstGo 121 = .ok (.ireturn, 1) := by decide +kernel
set_option maxRecDepth 20000 in
theorem ggX7_firstGo_X7_isSpared : GoodIn wsX7_firstGo wsX7_isSpared := goodIn_r _ [60, 61, 62, 63, 64, 65, 4, 10, 66, 67, 68, 69, 70, 71, 72, 73, 74, 75, 41, 42, 43, 44, 45, 11, 12, 13, 14, 15, 16, 17, 18, 19, 20, 21, 22, 23, 24, 25, 26, 27, 28, 29, 30, 31, 32, 33, 34, 35, 36, 37, 38, 39, 40, 46, 47, 48, 49, 50, 51, 52, 53, 54, 55, 76, 77, 78, 79, 80, 81, 82, 83, 84, 85, 86, 87, 88, 89, 90, 91, 92, 105, 106, 107, 108, 109, 110, 111, 112, 113, 114, 115, 116, 117, 118, 119, 120, 121, 122, 123, 97, 98, 99, 100, 101, 102, 103, 104] (by decide +kernel) (by decide +kernel)
set_option maxRecDepth 20000 in
theorem gX7_firstGo_X7_isSpared : GoodIn wsX7_firstGo (wsV RX7 178 RX7 yX7_isSpared wsX7_isSpared) := goodIn_app (goodIn_of _ (by decide +kernel)) ggX7_firstGo_X7_isSpared
set_option maxRecDepth 20000 in
theorem ggX7_firstGo_X9_reckon : GoodIn wsX7_firstGo wsX9_reckon := goodIn_r _ [15, 16, 17, 18, 19, 20, 21, 22, 23, 24, 25, 26, 27, 28, 29, 30, 14, 31, 32, 33, 34, 35, 36, 37, 38, 39, 40, 41, 42, 43, 44, 45, 46, 47, 48, 49, 50, 51, 52, 53, 54, 55, 101, 102, 103, 104, 76, 77, 78, 79, 80, 81, 82, 83, 84, 85, 86, 87, 88, 89, 90, 91, 92, 105, 106, 107, 108, 109, 110, 111, 112, 113, 114, 115, 97, 98, 99, 100] (by decide +kernel) (by decide +kernel)
set_option maxRecDepth 20000 in
theorem gX7_firstGo_X9_reckon : GoodIn wsX7_firstGo (wsV RX7 174 RX9 yX9_reckon wsX9_reckon) := goodIn_app (goodIn_of _ (by decide +kernel)) ggX7_firstGo_X9_reckon
theorem k_X7_firstGo_f162 : Cond.fieldLink RX7 162 "TideLots$Go" "ground" "I" ∈ wsX7_firstGo := by decide +kernel
theorem i_X7_firstGo_X2 : ∀ w ∈ u_ws RX2 TX2 4, w ∈ wsX7_firstGo := by decide +kernel
theorem k_X7_firstGo_f78 : Cond.fieldLink RX7 78 "TideLots$Shore" "goCount" "I" ∈ wsX7_firstGo := by decide +kernel
theorem i_X7_firstGo_X7 : ∀ w ∈ u_ws RX7 TX7 17, w ∈ wsX7_firstGo := by decide +kernel
theorem k_X7_firstGo_f29 : Cond.fieldLink RX7 29 "TideLots$Shore" "goes" "[LTideLots$Go;" ∈ wsX7_firstGo := by decide +kernel
theorem k_X7_firstGo_f159 : Cond.fieldLink RX7 159 "TideLots$Go" "fisher" "I" ∈ wsX7_firstGo := by decide +kernel
theorem k_X7_firstGo_f17 : Cond.fieldLink RX7 17 "TideLots$Shore" "grounds" "[LTideLots$Ground;" ∈ wsX7_firstGo := by decide +kernel
theorem k_X7_firstGo_f156 : Cond.fieldLink RX7 156 "TideLots$Ground" "boats" "I" ∈ wsX7_firstGo := by decide +kernel
theorem i_X7_firstGo_X3 : ∀ w ∈ u_ws RX3 TX3 4, w ∈ wsX7_firstGo := by decide +kernel
theorem k_X7_firstGo_f165 : Cond.fieldLink RX7 165 "TideLots$Ground" "room" "I" ∈ wsX7_firstGo := by decide +kernel
theorem k_X7_firstGo_f168 : Cond.fieldLink RX7 168 "TideLots$Go" "testStart" "I" ∈ wsX7_firstGo := by decide +kernel
theorem k_X7_firstGo_f171 : Cond.fieldLink RX7 171 "TideLots$Go" "testEnd" "I" ∈ wsX7_firstGo := by decide +kernel
theorem k_X7_firstGo_f42 : Cond.fieldLink RX7 42 "TideLots$Shore" "sums" "LTideLots$Sums;" ∈ wsX7_firstGo := by decide +kernel
abbrev rX7_firstGo : Room := { frames := 4, cells := 0, slots := 0, locals := 93 }
noncomputable def b_X7_firstGo_114 (Z : Nat → Nat) (M : gMem) (x0 : Nat) (x1 : Int32) (x2 : Int32) : Option ((gMem × Int32) ⊕ (Int32 × gMem)) :=
  some (.inl (M, (x2 + (1 : Int32))))
noncomputable def b_X7_firstGo_90 (Z : Nat → Nat) (M : gMem) (x0 : Nat) (x1 : Int32) (x2 : Int32) (x3 : Option Nat) (s0 : Int32) : Option ((gMem × Int32) ⊕ (Int32 × gMem)) :=
  (if s0 = 0 then b_X7_firstGo_114 Z M x0 x1 x2 else dr x3 fun a1 => ck (mT M a1 = 2) <| ck (mT M x0 = 7) <| bd (f_X7_isSpared Z M x0 ((mI M a1 1)) x1) fun r3 M3 => (if r3 = 0 then ck (mT M3 a1 = 2) <| oI (some ((mI M3 a1 1), M3)) else b_X7_firstGo_114 Z M3 x0 x1 x2))
noncomputable def b_X7_firstGo_85 (Z : Nat → Nat) (M : gMem) (x0 : Nat) (x1 : Int32) (x2 : Int32) (x3 : Option Nat) : Option ((gMem × Int32) ⊕ (Int32 × gMem)) :=
  b_X7_firstGo_90 Z M x0 x1 x2 x3 ((1 : Int32))
noncomputable def bb_X7_firstGo_2 (Z : Nat → Nat) (M : gMem) (x0 : Nat) (x1 : Int32) (x2 : Int32) : Option ((gMem × Int32) ⊕ (Int32 × gMem)) :=
  ck (mT M x0 = 7) <| (if (mI M x0 4) ≤ x2 then oI (some ((-1 : Int32), M)) else dr ((mR M x0 8)) fun a9 => ck (mT M a9 = 25) <| ck (inb x2 (mL M a9)) <| dr ((mR M a9 x2.toNatClampNeg)) fun a12 => ck (mT M a12 = 2) <| (if (mI M a12 0) = x1 then dr ((mR M x0 6)) fun a14 => ck (mT M a14 = 23) <| ck (inb (mI M a12 1) (mL M a14)) <| dr ((mR M a14 ((mI M a12 1)).toNatClampNeg)) fun a17 => ck (mT M a17 = 3) <| ck (inb (mI M a12 1) (mL M a14)) <| (if (mI M a17 1) < (mI M a17 0) then (if (mI M a12 2) = (mI M a12 3) then b_X7_firstGo_85 Z M x0 x1 x2 ((mR M a9 x2.toNatClampNeg)) else dr ((mR M x0 10)) fun a21 => ck (mT M a21 = 8) <| bd (f_X9_reckon Z M a21 ((mI M a12 2)) ((mI M a12 3)) ((some x0))) fun r20 M20 => (if r20 = 0 then b_X7_firstGo_90 Z M20 x0 x1 x2 ((mR M a9 x2.toNatClampNeg)) ((0 : Int32)) else b_X7_firstGo_85 Z M20 x0 x1 x2 ((mR M a9 x2.toNatClampNeg)))) else b_X7_firstGo_114 Z M x0 x1 x2) else b_X7_firstGo_114 Z M x0 x1 x2))
noncomputable def lp_X7_firstGo_2 (Z : Nat → Nat) (M : gMem) (x0 : Nat) (x1 : Int32) (x2 : Int32) : Option (Int32 × gMem) :=
  lp (fun (q : gMem × Int32) => bb_X7_firstGo_2 Z q.1 x0 x1 q.2) (M, x2)
noncomputable def b_X7_firstGo_0 (Z : Nat → Nat) (M : gMem) (x0 : Nat) (x1 : Int32) : Option (Int32 × gMem) :=
  lp_X7_firstGo_2 Z M x0 x1 ((0 : Int32))
noncomputable def f_X7_firstGo (Z : Nat → Nat) (M : gMem) (x0 : Nat) (x1 : Int32) : Option (Int32 × gMem) :=
  b_X7_firstGo_0 Z M x0 x1
set_option maxHeartbeats 4000000 in
set_option maxRecDepth 100000 in
theorem t_X7_firstGo_114 (X : gX p s m args meth c D cy B (gSt Z B H0) RX7 cX7_firstGo wsX7_firstGo 5) (hr : meth.sig.returnType = (some .int)) {Q : State → Prop} : ∀ (M : gMem) (x0 : Nat) (x1 : Int32) (x2 : Int32) (z : (gMem × Int32) ⊕ (Int32 × gMem)), b_X7_firstGo_114 Z M x0 x1 x2 = some z → (Sum.elim (fun (q : gMem × Int32) => gGo p l e rX7_firstGo s m args below meth c D cy B H0 5 0 0 Q 2 [(0, vR (some x0)), (1, vI x1), (2, vI q.2)] [] q.1) (fun (r : Int32 × gMem) => Q = gMQ below D cy B H0 args s 0 0 (some (vI r.1)) r.2)) z → gGo p l e rX7_firstGo s m args below meth c D cy B H0 5 0 0 Q 114 [(0, vR (some x0)), (1, vI x1), (2, vI x2)] [] M := by
  intro M x0 x1 x2 z hf hK
  unfold b_X7_firstGo_114 at hf
  refine g_iinc (v := (1 : Int32)) (lv' := [(2, vI (x2 + (1 : Int32))), (0, vR (some x0)), (1, vI x1)]) X dX7_firstGo_114 rfl (by decide) (by decide) rfl ?_
  refine g_goto (tgt := 2) X dX7_firstGo_117 (by decide) ?_
  cases hf
  refine g_sub (lvsub_of _ _ [1, 2, 0] rfl) ?_
  exact hK
set_option maxHeartbeats 4000000 in
set_option maxRecDepth 100000 in
theorem t_X7_firstGo_90 (X : gX p s m args meth c D cy B (gSt Z B H0) RX7 cX7_firstGo wsX7_firstGo 5) (hr : meth.sig.returnType = (some .int)) {Q : State → Prop} : ∀ (M : gMem) (x0 : Nat) (x1 : Int32) (x2 : Int32) (x3 : Option Nat) (s0 : Int32) (z : (gMem × Int32) ⊕ (Int32 × gMem)), b_X7_firstGo_90 Z M x0 x1 x2 x3 s0 = some z → (Sum.elim (fun (q : gMem × Int32) => gGo p l e rX7_firstGo s m args below meth c D cy B H0 5 0 0 Q 2 [(0, vR (some x0)), (1, vI x1), (2, vI q.2)] [] q.1) (fun (r : Int32 × gMem) => Q = gMQ below D cy B H0 args s 0 0 (some (vI r.1)) r.2)) z → gGo p l e rX7_firstGo s m args below meth c D cy B H0 5 0 0 Q 90 [(0, vR (some x0)), (1, vI x1), (2, vI x2), (3, vR x3)] [vI s0] M := by
  intro M x0 x1 x2 x3 s0 z hf hK
  unfold b_X7_firstGo_90 at hf
  refine g_istore (lv' := [(4, vI s0), (0, vR (some x0)), (1, vI x1), (2, vI x2), (3, vR x3)]) X dX7_firstGo_90 (by decide) rfl ?_
  refine g_iload X dX7_firstGo_92 rfl ?_
  refine g_if_eq (tgt := 114) X dX7_firstGo_94 (by decide) (fun hc => ?_) (fun hc => ?_)
  · have hf := ife_t hc hf
    refine g_sub (lvsub_of _ _ [1, 2, 3] rfl) ?_
    exact t_X7_firstGo_114 X hr _ _ _ _ _ hf hK
  · have hf := ife_f hc hf
    refine g_aload_n X dX7_firstGo_97 rfl rfl ?_
    refine g_aload_n X dX7_firstGo_98 rfl rfl ?_
    obtain ⟨a1, ha1, hf⟩ := dr_e hf
    obtain ⟨hT2, hf⟩ := ck_e hf
    refine g_get (ci := 1) (v := vI (mI M a1 1)) 1 X cdX2 i_X7_firstGo_X2 (by decide) k_X7_firstGo_f162 rfl dX7_firstGo_99 ha1 hT2 rfl ?_
    refine g_iload_n X dX7_firstGo_102 rfl rfl ?_
    obtain ⟨hT4, hf⟩ := ck_e hf
    obtain ⟨r3, M3, hq3, hf⟩ := bd_e hf
    refine g_callV (ci := 6) (b := x0) (As := [vI (mI M a1 1), vI x1]) (st := []) (v := some (vI r3)) (M1 := M3) X (m_X7_isSpared l hq3) (cwV 2 X.2.2.1 gX7_firstGo_X7_isSpared rfl rfl rfl (by decide +kernel) ⟨Nat.le_of_ble_eq_true rfl, Nat.le_of_ble_eq_true rfl⟩) rfl rfl rfl hT4 (by decide) rfl (Nat.le_of_ble_eq_true rfl) dX7_firstGo_103 ⟨by decide, by decide⟩ ?_
    refine g_if_ne (tgt := 114) X dX7_firstGo_106 (by decide) (fun hc => ?_) (fun hc => ?_)
    · have hf := ife_f hc hf
      refine g_sub (lvsub_of _ _ [1, 2, 3] rfl) ?_
      exact t_X7_firstGo_114 X hr _ _ _ _ _ hf hK
    · have hf := ife_t hc hf
      refine g_aload_n X dX7_firstGo_109 rfl rfl ?_
      obtain ⟨hT5, hf⟩ := ck_e hf
      refine g_get (ci := 1) (v := vI (mI M3 a1 1)) 1 X cdX2 i_X7_firstGo_X2 (by decide) k_X7_firstGo_f162 rfl dX7_firstGo_110 ha1 hT5 rfl ?_
      obtain ⟨w6, hw6, hz6⟩ := oI_e hf
      subst hz6
      have hf := hw6
      cases hf
      refine g_eqQ hK ?_
      exact g_iret X hr dX7_firstGo_113
set_option maxHeartbeats 4000000 in
set_option maxRecDepth 100000 in
theorem t_X7_firstGo_85 (X : gX p s m args meth c D cy B (gSt Z B H0) RX7 cX7_firstGo wsX7_firstGo 5) (hr : meth.sig.returnType = (some .int)) {Q : State → Prop} : ∀ (M : gMem) (x0 : Nat) (x1 : Int32) (x2 : Int32) (x3 : Option Nat) (z : (gMem × Int32) ⊕ (Int32 × gMem)), b_X7_firstGo_85 Z M x0 x1 x2 x3 = some z → (Sum.elim (fun (q : gMem × Int32) => gGo p l e rX7_firstGo s m args below meth c D cy B H0 5 0 0 Q 2 [(0, vR (some x0)), (1, vI x1), (2, vI q.2)] [] q.1) (fun (r : Int32 × gMem) => Q = gMQ below D cy B H0 args s 0 0 (some (vI r.1)) r.2)) z → gGo p l e rX7_firstGo s m args below meth c D cy B H0 5 0 0 Q 85 [(0, vR (some x0)), (1, vI x1), (2, vI x2), (3, vR x3)] [] M := by
  intro M x0 x1 x2 x3 z hf hK
  unfold b_X7_firstGo_85 at hf
  refine g_iconst (v := (1 : Int32)) X dX7_firstGo_85 (by decide) ?_
  refine g_goto (tgt := 90) X dX7_firstGo_86 (by decide) ?_
  refine g_sub (lvsub_of _ _ [0, 1, 2, 3] rfl) ?_
  exact t_X7_firstGo_90 X hr _ _ _ _ _ _ _ hf hK
set_option maxHeartbeats 4000000 in
set_option maxRecDepth 100000 in
theorem tb_X7_firstGo_2 (X : gX p s m args meth c D cy B (gSt Z B H0) RX7 cX7_firstGo wsX7_firstGo 5) (hr : meth.sig.returnType = (some .int)) {Q : State → Prop} : ∀ (M : gMem) (x0 : Nat) (x1 : Int32) (x2 : Int32) (z : (gMem × Int32) ⊕ (Int32 × gMem)), bb_X7_firstGo_2 Z M x0 x1 x2 = some z → (Sum.elim (fun (q : gMem × Int32) => gGo p l e rX7_firstGo s m args below meth c D cy B H0 5 0 0 Q 2 [(0, vR (some x0)), (1, vI x1), (2, vI q.2)] [] q.1) (fun (r : Int32 × gMem) => Q = gMQ below D cy B H0 args s 0 0 (some (vI r.1)) r.2)) z → gGo p l e rX7_firstGo s m args below meth c D cy B H0 5 0 0 Q 2 [(0, vR (some x0)), (1, vI x1), (2, vI x2)] [] M := by
  intro M x0 x1 x2 z hf hK
  unfold bb_X7_firstGo_2 at hf
  refine g_iload_n X dX7_firstGo_2 rfl rfl ?_
  refine g_aload_n X dX7_firstGo_3 rfl rfl ?_
  obtain ⟨hT7, hf⟩ := ck_e hf
  refine g_get (ci := 6) (v := vI (mI M x0 4)) 4 X cdX7 i_X7_firstGo_X7 (by decide) k_X7_firstGo_f78 rfl dX7_firstGo_4 rfl hT7 rfl ?_
  refine g_icmp_ge (tgt := 120) X dX7_firstGo_7 (by decide) (fun hc => ?_) (fun hc => ?_)
  · have hf := ife_t hc hf
    refine g_iconst (v := (-1 : Int32)) X dX7_firstGo_120 (by decide) ?_
    obtain ⟨w8, hw8, hz8⟩ := oI_e hf
    subst hz8
    have hf := hw8
    cases hf
    refine g_eqQ hK ?_
    exact g_iret X hr dX7_firstGo_121
  · have hf := ife_f hc hf
    refine g_aload_n X dX7_firstGo_10 rfl rfl ?_
    refine g_get (ci := 6) (v := vR (mR M x0 8)) 8 X cdX7 i_X7_firstGo_X7 (by decide) k_X7_firstGo_f29 rfl dX7_firstGo_11 rfl hT7 rfl ?_
    refine g_iload_n X dX7_firstGo_14 rfl rfl ?_
    obtain ⟨a9, ha9, hf⟩ := dr_e hf
    obtain ⟨hT10, hf⟩ := ck_e hf
    obtain ⟨hg11, hf⟩ := ck_e hf
    refine g_aald (t0 := 5) X dX7_firstGo_15 ha9 hT10 (by decide) rfl hg11 ?_
    refine g_astore_n (lv' := [(3, vR (mR M a9 x2.toNatClampNeg)), (0, vR (some x0)), (1, vI x1), (2, vI x2)]) X dX7_firstGo_16 rfl (by decide) rfl ?_
    refine g_aload_n X dX7_firstGo_17 rfl rfl ?_
    obtain ⟨a12, ha12, hf⟩ := dr_e hf
    obtain ⟨hT13, hf⟩ := ck_e hf
    refine g_get (ci := 1) (v := vI (mI M a12 0)) 0 X cdX2 i_X7_firstGo_X2 (by decide) k_X7_firstGo_f159 rfl dX7_firstGo_18 ha12 hT13 rfl ?_
    refine g_iload_n X dX7_firstGo_21 rfl rfl ?_
    refine g_icmp_ne (tgt := 114) X dX7_firstGo_22 (by decide) (fun hc => ?_) (fun hc => ?_)
    · have hf := ife_f hc hf
      refine g_sub (lvsub_of _ _ [1, 2, 3] rfl) ?_
      exact t_X7_firstGo_114 X hr _ _ _ _ _ hf hK
    · have hf := ife_t hc hf
      refine g_aload_n X dX7_firstGo_25 rfl rfl ?_
      refine g_get (ci := 6) (v := vR (mR M x0 6)) 6 X cdX7 i_X7_firstGo_X7 (by decide) k_X7_firstGo_f17 rfl dX7_firstGo_26 rfl hT7 rfl ?_
      refine g_aload_n X dX7_firstGo_29 rfl rfl ?_
      refine g_get (ci := 1) (v := vI (mI M a12 1)) 1 X cdX2 i_X7_firstGo_X2 (by decide) k_X7_firstGo_f162 rfl dX7_firstGo_30 ha12 hT13 rfl ?_
      obtain ⟨a14, ha14, hf⟩ := dr_e hf
      obtain ⟨hT15, hf⟩ := ck_e hf
      obtain ⟨hg16, hf⟩ := ck_e hf
      refine g_aald (t0 := 3) X dX7_firstGo_33 ha14 hT15 (by decide) rfl hg16 ?_
      obtain ⟨a17, ha17, hf⟩ := dr_e hf
      obtain ⟨hT18, hf⟩ := ck_e hf
      refine g_get (ci := 2) (v := vI (mI M a17 1)) 1 X cdX3 i_X7_firstGo_X3 (by decide) k_X7_firstGo_f156 rfl dX7_firstGo_34 ha17 hT18 rfl ?_
      refine g_aload_n X dX7_firstGo_37 rfl rfl ?_
      refine g_get (ci := 6) (v := vR (mR M x0 6)) 6 X cdX7 i_X7_firstGo_X7 (by decide) k_X7_firstGo_f17 rfl dX7_firstGo_38 rfl hT7 rfl ?_
      refine g_aload_n X dX7_firstGo_41 rfl rfl ?_
      refine g_get (ci := 1) (v := vI (mI M a12 1)) 1 X cdX2 i_X7_firstGo_X2 (by decide) k_X7_firstGo_f162 rfl dX7_firstGo_42 ha12 hT13 rfl ?_
      obtain ⟨hg19, hf⟩ := ck_e hf
      refine g_aald (t0 := 3) X dX7_firstGo_45 ha14 hT15 (by decide) rfl hg19 ?_
      refine g_get (ci := 2) (v := vI (mI M a17 0)) 0 X cdX3 i_X7_firstGo_X3 (by decide) k_X7_firstGo_f165 rfl dX7_firstGo_46 ha17 hT18 rfl ?_
      refine g_icmp_lt (tgt := 55) X dX7_firstGo_49 (by decide) (fun hc => ?_) (fun hc => ?_)
      · have hf := ife_t hc hf
        refine g_aload_n X dX7_firstGo_55 rfl rfl ?_
        refine g_get (ci := 1) (v := vI (mI M a12 2)) 2 X cdX2 i_X7_firstGo_X2 (by decide) k_X7_firstGo_f168 rfl dX7_firstGo_56 ha12 hT13 rfl ?_
        refine g_aload_n X dX7_firstGo_59 rfl rfl ?_
        refine g_get (ci := 1) (v := vI (mI M a12 3)) 3 X cdX2 i_X7_firstGo_X2 (by decide) k_X7_firstGo_f171 rfl dX7_firstGo_60 ha12 hT13 rfl ?_
        refine g_icmp_eq (tgt := 85) X dX7_firstGo_63 (by decide) (fun hc => ?_) (fun hc => ?_)
        · have hf := ife_t hc hf
          refine g_sub (lvsub_of _ _ [1, 2, 3, 0] rfl) ?_
          exact t_X7_firstGo_85 X hr _ _ _ _ _ _ hf hK
        · have hf := ife_f hc hf
          refine g_aload_n X dX7_firstGo_66 rfl rfl ?_
          refine g_get (ci := 6) (v := vR (mR M x0 10)) 10 X cdX7 i_X7_firstGo_X7 (by decide) k_X7_firstGo_f42 rfl dX7_firstGo_67 rfl hT7 rfl ?_
          refine g_aload_n X dX7_firstGo_70 rfl rfl ?_
          refine g_get (ci := 1) (v := vI (mI M a12 2)) 2 X cdX2 i_X7_firstGo_X2 (by decide) k_X7_firstGo_f168 rfl dX7_firstGo_71 ha12 hT13 rfl ?_
          refine g_aload_n X dX7_firstGo_74 rfl rfl ?_
          refine g_get (ci := 1) (v := vI (mI M a12 3)) 3 X cdX2 i_X7_firstGo_X2 (by decide) k_X7_firstGo_f171 rfl dX7_firstGo_75 ha12 hT13 rfl ?_
          refine g_aload_n X dX7_firstGo_78 rfl rfl ?_
          obtain ⟨a21, ha21, hf⟩ := dr_e hf
          obtain ⟨hT22, hf⟩ := ck_e hf
          obtain ⟨r20, M20, hq20, hf⟩ := bd_e hf
          refine g_callV (ci := 7) (b := a21) (As := [vI (mI M a12 2), vI (mI M a12 3), vR (some x0)]) (st := []) (v := some (vI r20)) (M1 := M20) X (m_X9_reckon l hq20) (cwV 3 X.2.2.1 gX7_firstGo_X9_reckon rfl rfl rfl (by decide +kernel) ⟨Nat.le_of_ble_eq_true rfl, Nat.le_of_ble_eq_true rfl⟩) rfl rfl ha21 hT22 (by decide) rfl (Nat.le_of_ble_eq_true rfl) dX7_firstGo_79 ⟨by decide, by decide⟩ ?_
          refine g_if_eq (tgt := 89) X dX7_firstGo_82 (by decide) (fun hc => ?_) (fun hc => ?_)
          · have hf := ife_t hc hf
            refine g_iconst (v := (0 : Int32)) X dX7_firstGo_89 (by decide) ?_
            refine g_sub (lvsub_of _ _ [1, 2, 3, 0] rfl) ?_
            exact t_X7_firstGo_90 X hr _ _ _ _ _ _ _ hf hK
          · have hf := ife_f hc hf
            refine g_sub (lvsub_of _ _ [1, 2, 3, 0] rfl) ?_
            exact t_X7_firstGo_85 X hr _ _ _ _ _ _ hf hK
      · have hf := ife_f hc hf
        refine g_goto (tgt := 114) X dX7_firstGo_52 (by decide) ?_
        refine g_sub (lvsub_of _ _ [1, 2, 3] rfl) ?_
        exact t_X7_firstGo_114 X hr _ _ _ _ _ hf hK
set_option maxHeartbeats 4000000 in
set_option maxRecDepth 100000 in
theorem tl_X7_firstGo_2 (X : gX p s m args meth c D cy B (gSt Z B H0) RX7 cX7_firstGo wsX7_firstGo 5) (hr : meth.sig.returnType = (some .int)) {Q : State → Prop} : ∀ (M : gMem) (x0 : Nat) (x1 : Int32) (x2 : Int32) (z : Int32 × gMem), lp_X7_firstGo_2 Z M x0 x1 x2 = some z → (fun (r : Int32 × gMem) => Q = gMQ below D cy B H0 args s 0 0 (some (vI r.1)) r.2) z → gGo p l e rX7_firstGo s m args below meth c D cy B H0 5 0 0 Q 2 [(0, vR (some x0)), (1, vI x1), (2, vI x2)] [] M := by
  intro M x0 x1 x2 z hf hK
  refine lp_ind (P := (fun (q : gMem × Int32) (z : Int32 × gMem) => (fun (r : Int32 × gMem) => Q = gMQ below D cy B H0 args s 0 0 (some (vI r.1)) r.2) z → gGo p l e rX7_firstGo s m args below meth c D cy B H0 5 0 0 Q 2 [(0, vR (some x0)), (1, vI x1), (2, vI q.2)] [] q.1)) (fun q z hq => ?_) _ _ hf hK
  intro hK
  obtain ⟨w, hw, hm⟩ := hq
  refine tb_X7_firstGo_2 X hr _ _ _ _ w hw ?_
  cases w with
  | inl a => exact hm hK
  | inr b => cases hm; exact hK
set_option maxHeartbeats 4000000 in
set_option maxRecDepth 100000 in
theorem t_X7_firstGo_0 (X : gX p s m args meth c D cy B (gSt Z B H0) RX7 cX7_firstGo wsX7_firstGo 5) (hr : meth.sig.returnType = (some .int)) {Q : State → Prop} : ∀ (M : gMem) (x0 : Nat) (x1 : Int32) (z : Int32 × gMem), b_X7_firstGo_0 Z M x0 x1 = some z → (fun (r : Int32 × gMem) => Q = gMQ below D cy B H0 args s 0 0 (some (vI r.1)) r.2) z → gGo p l e rX7_firstGo s m args below meth c D cy B H0 5 0 0 Q 0 [(0, vR (some x0)), (1, vI x1)] [] M := by
  intro M x0 x1 z hf hK
  unfold b_X7_firstGo_0 at hf
  refine g_iconst (v := (0 : Int32)) X dX7_firstGo_0 (by decide) ?_
  refine g_istore_n (lv' := [(2, vI (0 : Int32)), (0, vR (some x0)), (1, vI x1)]) X dX7_firstGo_1 rfl (by decide) rfl ?_
  refine g_sub (lvsub_of _ _ [1, 2, 0] rfl) ?_
  exact tl_X7_firstGo_2 X hr _ _ _ _ _ hf hK
set_option maxHeartbeats 4000000 in
set_option maxRecDepth 100000 in
theorem m_X7_firstGo (l : Launch) {D : va_G} {cy : Nat → ClassId} {B : Nat} {H0 : Heap} {Z : Nat → Nat} {M M1 : gMem} {x0 : Nat} {x1 : Int32} {r : Int32} (hf : f_X7_firstGo Z M x0 x1 = some (r, M1)) : Met l yX7_firstGo wsX7_firstGo rX7_firstGo (va_Pc (Value.ref x0 :: List.map gv [vI x1]) (gPre D cy B H0 (gSt Z B H0) M)) (gQ D cy B H0 (some (vI r)) M1) 0 0 (gA B) := by
  refine Met.ofW (cc := cX7_firstGo) (maxL := 5) (ret := (some .int)) (by decide) rfl ?_
  intro p e s m args below meth c s₁ Bd hml hv
  obtain ⟨rfl, hW, hKK, hFs⟩ := hv
  have X : gX p s m _ meth c D cy B (gSt Z B H0) RX7 cX7_firstGo wsX7_firstGo 5 := ⟨Bd.exec, Bd.bytes, atoms_spec (ws := wsX7_firstGo) Bd.pre, findClass_of_methodNamed Bd.named, hml, hKK, by rw [hW.1]; exact hW.2.1, Bd.notSynchronized, hFs⟩
  have hr := Bd.returns
  have hl := lv_entry ([.ref x0, .int x1]) (n := 5) (Nat.le_of_ble_eq_true rfl)
  show W p l e rX7_firstGo s m _ below meth c s.heap [] 0 0 _ (entryFrame m ([.ref x0, .int x1] : List Value).toArray 5)
  rw [lg_entry_eq]
  generalize (lg_sl ([.ref x0, .int x1]) ++ List.replicate (5 - (lg_sl ([.ref x0, .int x1])).length) Slot.unset).toArray = ls at hl ⊢
  have hl : lv_has ls 5 (List.map gq [(0, vR (some x0)), (1, vI x1)]) := hl
  exact t_X7_firstGo_0 X hr _ _ _ _ hf rfl s.heap [] ls hW va_S.rf (lv_has_sub hl (lvsub_of _ _ [0, 1] rfl))
/-! ## TideLots$Shore.haulFrom(LTideLots$Ground;LTideLots$Fisher;)V -/
theorem dX7_haulFrom_0 : decode cX7_haulFrom 0 = .ok (.aload_n 2, 1) := by decide +kernel
theorem dX7_haulFrom_1 : decode cX7_haulFrom 1 = .ok (.getfield 119, 3) := by decide +kernel
theorem dX7_haulFrom_4 : decode cX7_haulFrom 4 = .ok (.istore_n 3, 1) := by decide +kernel
theorem dX7_haulFrom_5 : decode cX7_haulFrom 5 = .ok (.iconst 0, 1) := by decide +kernel
theorem dX7_haulFrom_6 : decode cX7_haulFrom 6 = .ok (.istore 4, 2) := by decide +kernel
theorem dX7_haulFrom_8 : decode cX7_haulFrom 8 = .ok (.iconst 0, 1) := by decide +kernel
theorem dX7_haulFrom_9 : decode cX7_haulFrom 9 = .ok (.istore 5, 2) := by decide +kernel
theorem dX7_haulFrom_11 : decode cX7_haulFrom 11 = .ok (.iconst 0, 1) := by decide +kernel
theorem dX7_haulFrom_12 : decode cX7_haulFrom 12 = .ok (.istore 6, 2) := by decide +kernel
theorem dX7_haulFrom_14 : decode cX7_haulFrom 14 = .ok (.iconst 5, 1) := by decide +kernel
theorem dX7_haulFrom_15 : decode cX7_haulFrom 15 = .ok (.istore 7, 2) := by decide +kernel
theorem dX7_haulFrom_17 : decode cX7_haulFrom 17 = .ok (.iload 7, 2) := by decide +kernel
theorem dX7_haulFrom_19 : decode cX7_haulFrom 19 = .ok (.iconst 1, 1) := by decide +kernel
theorem dX7_haulFrom_20 : decode cX7_haulFrom 20 = .ok (.if_icmp .lt 119, 3) := by decide +kernel
theorem dX7_haulFrom_23 : decode cX7_haulFrom 23 = .ok (.aload_n 0, 1) := by decide +kernel
theorem dX7_haulFrom_24 : decode cX7_haulFrom 24 = .ok (.getfield 53, 3) := by decide +kernel
theorem dX7_haulFrom_27 : decode cX7_haulFrom 27 = .ok (.iload 7, 2) := by decide +kernel
theorem dX7_haulFrom_29 : decode cX7_haulFrom 29 = .ok (.iconst 0, 1) := by decide +kernel
theorem dX7_haulFrom_30 : decode cX7_haulFrom 30 = .ok (.iastore, 1) := by decide +kernel
theorem dX7_haulFrom_31 : decode cX7_haulFrom 31 = .ok (.iload 7, 2) := by decide +kernel
theorem dX7_haulFrom_33 : decode cX7_haulFrom 33 = .ok (.iload_n 3, 1) := by decide +kernel
theorem dX7_haulFrom_34 : decode cX7_haulFrom 34 = .ok (.if_icmp .lt 99, 3) := by decide +kernel
theorem dX7_haulFrom_37 : decode cX7_haulFrom 37 = .ok (.iload 6, 2) := by decide +kernel
theorem dX7_haulFrom_39 : decode cX7_haulFrom 39 = .ok (.ifCond .ne 94, 3) := by decide +kernel
theorem dX7_haulFrom_42 : decode cX7_haulFrom 42 = .ok (.aload_n 1, 1) := by decide +kernel
theorem dX7_haulFrom_43 : decode cX7_haulFrom 43 = .ok (.getfield 210, 3) := by decide +kernel
theorem dX7_haulFrom_46 : decode cX7_haulFrom 46 = .ok (.iload 7, 2) := by decide +kernel
theorem dX7_haulFrom_48 : decode cX7_haulFrom 48 = .ok (.iaload, 1) := by decide +kernel
theorem dX7_haulFrom_49 : decode cX7_haulFrom 49 = .ok (.aload_n 2, 1) := by decide +kernel
theorem dX7_haulFrom_50 : decode cX7_haulFrom 50 = .ok (.getfield 213, 3) := by decide +kernel
theorem dX7_haulFrom_53 : decode cX7_haulFrom 53 = .ok (.iload 4, 2) := by decide +kernel
theorem dX7_haulFrom_55 : decode cX7_haulFrom 55 = .ok (.isub, 1) := by decide +kernel
theorem dX7_haulFrom_56 : decode cX7_haulFrom 56 = .ok (.invokestatic 87, 3) := by decide +kernel
theorem dX7_haulFrom_59 : decode cX7_haulFrom 59 = .ok (.istore 8, 2) := by decide +kernel
theorem dX7_haulFrom_61 : decode cX7_haulFrom 61 = .ok (.aload_n 2, 1) := by decide +kernel
theorem dX7_haulFrom_62 : decode cX7_haulFrom 62 = .ok (.getfield 216, 3) := by decide +kernel
theorem dX7_haulFrom_65 : decode cX7_haulFrom 65 = .ok (.iload 5, 2) := by decide +kernel
theorem dX7_haulFrom_67 : decode cX7_haulFrom 67 = .ok (.isub, 1) := by decide +kernel
theorem dX7_haulFrom_68 : decode cX7_haulFrom 68 = .ok (.iload 7, 2) := by decide +kernel
theorem dX7_haulFrom_70 : decode cX7_haulFrom 70 = .ok (.idiv, 1) := by decide +kernel
theorem dX7_haulFrom_71 : decode cX7_haulFrom 71 = .ok (.istore 9, 2) := by decide +kernel
theorem dX7_haulFrom_73 : decode cX7_haulFrom 73 = .ok (.iload 8, 2) := by decide +kernel
theorem dX7_haulFrom_75 : decode cX7_haulFrom 75 = .ok (.iload 9, 2) := by decide +kernel
theorem dX7_haulFrom_77 : decode cX7_haulFrom 77 = .ok (.if_icmp .le 7, 3) := by decide +kernel
theorem dX7_haulFrom_80 : decode cX7_haulFrom 80 = .ok (.iconst 1, 1) := by decide +kernel
theorem dX7_haulFrom_81 : decode cX7_haulFrom 81 = .ok (.goto 4, 3) := by decide +kernel
theorem dX7_haulFrom_84 : decode cX7_haulFrom 84 = .ok (.iconst 0, 1) := by decide +kernel
theorem dX7_haulFrom_85 : decode cX7_haulFrom 85 = .ok (.istore 6, 2) := by decide +kernel
theorem dX7_haulFrom_87 : decode cX7_haulFrom 87 = .ok (.aload_n 0, 1) := by decide +kernel
theorem dX7_haulFrom_88 : decode cX7_haulFrom 88 = .ok (.getfield 53, 3) := by decide +kernel
theorem dX7_haulFrom_91 : decode cX7_haulFrom 91 = .ok (.iload 7, 2) := by decide +kernel
theorem dX7_haulFrom_93 : decode cX7_haulFrom 93 = .ok (.iload 6, 2) := by decide +kernel
theorem dX7_haulFrom_95 : decode cX7_haulFrom 95 = .ok (.ifCond .eq 8, 3) := by decide +kernel
theorem dX7_haulFrom_98 : decode cX7_haulFrom 98 = .ok (.iload 9, 2) := by decide +kernel
theorem dX7_haulFrom_100 : decode cX7_haulFrom 100 = .ok (.goto 5, 3) := by decide +kernel
theorem dX7_haulFrom_103 : decode cX7_haulFrom 103 = .ok (.iload 8, 2) := by decide +kernel
theorem dX7_haulFrom_105 : decode cX7_haulFrom 105 = .ok (.iastore, 1) := by decide +kernel
theorem dX7_haulFrom_106 : decode cX7_haulFrom 106 = .ok (.iload 4, 2) := by decide +kernel
theorem dX7_haulFrom_108 : decode cX7_haulFrom 108 = .ok (.aload_n 0, 1) := by decide +kernel
theorem dX7_haulFrom_109 : decode cX7_haulFrom 109 = .ok (.getfield 53, 3) := by decide +kernel
theorem dX7_haulFrom_112 : decode cX7_haulFrom 112 = .ok (.iload 7, 2) := by decide +kernel
theorem dX7_haulFrom_114 : decode cX7_haulFrom 114 = .ok (.iaload, 1) := by decide +kernel
theorem dX7_haulFrom_115 : decode cX7_haulFrom 115 = .ok (.iadd, 1) := by decide +kernel
theorem dX7_haulFrom_116 : decode cX7_haulFrom 116 = .ok (.istore 4, 2) := by decide +kernel
theorem dX7_haulFrom_118 : decode cX7_haulFrom 118 = .ok (.iload 5, 2) := by decide +kernel
theorem dX7_haulFrom_120 : decode cX7_haulFrom 120 = .ok (.aload_n 0, 1) := by decide +kernel
theorem dX7_haulFrom_121 : decode cX7_haulFrom 121 = .ok (.getfield 53, 3) := by decide +kernel
theorem dX7_haulFrom_124 : decode cX7_haulFrom 124 = .ok (.iload 7, 2) := by decide +kernel
theorem dX7_haulFrom_126 : decode cX7_haulFrom 126 = .ok (.iaload, 1) := by decide +kernel
theorem dX7_haulFrom_127 : decode cX7_haulFrom 127 = .ok (.iload 7, 2) := by decide +kernel
theorem dX7_haulFrom_129 : decode cX7_haulFrom 129 = .ok (.imul, 1) := by decide +kernel
theorem dX7_haulFrom_130 : decode cX7_haulFrom 130 = .ok (.iadd, 1) := by decide +kernel
theorem dX7_haulFrom_131 : decode cX7_haulFrom 131 = .ok (.istore 5, 2) := by decide +kernel
theorem dX7_haulFrom_133 : decode cX7_haulFrom 133 = .ok (.iinc 7 (-1), 3) := by decide +kernel
theorem dX7_haulFrom_136 : decode cX7_haulFrom 136 = .ok (.goto (-119), 3) := by decide +kernel
theorem dX7_haulFrom_139 : decode cX7_haulFrom 139 = .ok (.iload 6, 2) := by decide +kernel
theorem dX7_haulFrom_141 : decode cX7_haulFrom 141 = .ok (.ifCond .eq 7, 3) := by decide +kernel
theorem dX7_haulFrom_144 : decode cX7_haulFrom 144 = .ok (.aload_n 2, 1) := by decide +kernel
theorem dX7_haulFrom_145 : decode cX7_haulFrom 145 = .ok (.invokevirtual 219, 3) := by decide +kernel
theorem dX7_haulFrom_148 : decode cX7_haulFrom 148 = .ok (.return_, 1) := by decide +kernel
set_option maxRecDepth 20000 in
theorem ggX7_haulFrom_X1_tear : GoodIn wsX7_haulFrom wsX1_tear := goodIn_r _ [14, 15, 16, 6, 7, 8, 17, 18, 19, 20, 21, 22, 23, 24, 25, 26, 27, 28] (by decide +kernel) (by decide +kernel)
set_option maxRecDepth 20000 in
theorem gX7_haulFrom_X1_tear : GoodIn wsX7_haulFrom (wsV RX7 219 RX1 yX1_tear wsX1_tear) := goodIn_app (goodIn_of _ (by decide +kernel)) ggX7_haulFrom_X1_tear
theorem k_X7_haulFrom_f53 : Cond.fieldLink RX7 53 "TideLots$Shore" "haul" "[I" ∈ wsX7_haulFrom := by decide +kernel
theorem i_X7_haulFrom_X7 : ∀ w ∈ u_ws RX7 TX7 17, w ∈ wsX7_haulFrom := by decide +kernel
theorem k_X7_haulFrom_f210 : Cond.fieldLink RX7 210 "TideLots$Ground" "fish" "[I" ∈ wsX7_haulFrom := by decide +kernel
theorem i_X7_haulFrom_X3 : ∀ w ∈ u_ws RX3 TX3 4, w ∈ wsX7_haulFrom := by decide +kernel
theorem k_X7_haulFrom_f213 : Cond.fieldLink RX7 213 "TideLots$Fisher" "hold" "I" ∈ wsX7_haulFrom := by decide +kernel
theorem i_X7_haulFrom_X1 : ∀ w ∈ u_ws RX1 TX1 11, w ∈ wsX7_haulFrom := by decide +kernel
theorem k_X7_haulFrom_m87 : Cond.methodLink RX7 87 Lib.Math.min.name ∈ wsX7_haulFrom := by decide +kernel
theorem k_X7_haulFrom_mmins : Cond.static Lib.Math.min.name ∈ wsX7_haulFrom := by decide +kernel
theorem k_X7_haulFrom_mi : Cond.initialized "java/lang/Math" ∈ wsX7_haulFrom := by decide +kernel
theorem k_X7_haulFrom_mminc : Cond.code Lib.Math.min.name Lib.Math.min.code 2 (some .int) ∈ wsX7_haulFrom := by decide +kernel
theorem k_X7_haulFrom_f216 : Cond.fieldLink RX7 216 "TideLots$Fisher" "net" "I" ∈ wsX7_haulFrom := by decide +kernel
theorem k_X7_haulFrom_f119 : Cond.fieldLink RX7 119 "TideLots$Fisher" "mesh" "I" ∈ wsX7_haulFrom := by decide +kernel
abbrev rX7_haulFrom : Room := { frames := 2, cells := 0, slots := 0, locals := 34 }
noncomputable def b_X7_haulFrom_148 (M : gMem)  : Option (Unit × gMem) :=
  some ((), M)
noncomputable def b_X7_haulFrom_133 (M : gMem) (x0 : Nat) (x1 : Option Nat) (x2 : Option Nat) (x3 : Int32) (x4 : Int32) (x5 : Int32) (x6 : Int32) (x7 : Int32) : Option ((gMem × Int32 × Int32 × Int32 × Int32) ⊕ (Unit × gMem)) :=
  some (.inl (M, x4, x5, x6, (x7 + (-1 : Int32))))
noncomputable def b_X7_haulFrom_105 (M : gMem) (x0 : Nat) (x1 : Option Nat) (x2 : Option Nat) (x3 : Int32) (x4 : Int32) (x5 : Int32) (x6 : Int32) (x7 : Int32) (s0 : Option Nat) (s1 : Int32) (s2 : Int32) : Option ((gMem × Int32 × Int32 × Int32 × Int32) ⊕ (Unit × gMem)) :=
  dr s0 fun a1 => ck (mT M a1 = 20) <| ck (inb s1 (mL M a1)) <| lw (wI M a1 s1.toNatClampNeg s2) fun M4 => ck (mT M4 x0 = 7) <| dr ((mR M4 x0 13)) fun a7 => ck (mT M4 a7 = 20) <| ck (inb x7 (mL M4 a7)) <| ck (inb x7 (mL M4 a7)) <| b_X7_haulFrom_133 M4 x0 x1 x2 x3 ((x4 + (mI M4 a7 x7.toNatClampNeg))) ((x5 + ((mI M4 a7 x7.toNatClampNeg) * x7))) x6 x7
noncomputable def b_X7_haulFrom_85 (M : gMem) (x0 : Nat) (x1 : Option Nat) (x2 : Option Nat) (x3 : Int32) (x4 : Int32) (x5 : Int32) (x7 : Int32) (x8 : Int32) (x9 : Int32) (s0 : Int32) : Option ((gMem × Int32 × Int32 × Int32 × Int32) ⊕ (Unit × gMem)) :=
  ck (mT M x0 = 7) <| (if s0 = 0 then b_X7_haulFrom_105 M x0 x1 x2 x3 x4 x5 s0 x7 ((mR M x0 13)) x7 x8 else b_X7_haulFrom_105 M x0 x1 x2 x3 x4 x5 s0 x7 ((mR M x0 13)) x7 x9)
noncomputable def bb_X7_haulFrom_17 (M : gMem) (x0 : Nat) (x1 : Option Nat) (x2 : Option Nat) (x3 : Int32) (x4 : Int32) (x5 : Int32) (x6 : Int32) (x7 : Int32) : Option ((gMem × Int32 × Int32 × Int32 × Int32) ⊕ (Unit × gMem)) :=
  (if x7 < (1 : Int32) then (if x6 = 0 then oI (b_X7_haulFrom_148 M ) else dr x2 fun a14 => ck (mT M a14 = 1) <| bd (f_X1_tear M a14) fun _ M13 => oI (b_X7_haulFrom_148 M13 )) else ck (mT M x0 = 7) <| dr ((mR M x0 13)) fun a18 => ck (mT M a18 = 20) <| ck (inb x7 (mL M a18)) <| lw (wI M a18 x7.toNatClampNeg ((0 : Int32))) fun M21 => (if x7 < x3 then b_X7_haulFrom_133 M21 x0 x1 x2 x3 x4 x5 x6 x7 else (if x6 = 0 then dr x1 fun a24 => ck (mT M21 a24 = 3) <| dr ((mR M21 a24 3)) fun a26 => ck (mT M21 a26 = 20) <| ck (inb x7 (mL M21 a26)) <| dr x2 fun a29 => ck (mT M21 a29 = 1) <| ck (¬ x7 = 0) <| (if (imin ((mI M21 a26 x7.toNatClampNeg)) (((mI M21 a29 3) - x4))) ≤ (((mI M21 a29 2) - x5) / x7) then b_X7_haulFrom_85 M21 x0 x1 x2 x3 x4 x5 x7 ((imin ((mI M21 a26 x7.toNatClampNeg)) (((mI M21 a29 3) - x4)))) ((((mI M21 a29 2) - x5) / x7)) ((0 : Int32)) else b_X7_haulFrom_85 M21 x0 x1 x2 x3 x4 x5 x7 ((imin ((mI M21 a26 x7.toNatClampNeg)) (((mI M21 a29 3) - x4)))) ((((mI M21 a29 2) - x5) / x7)) ((1 : Int32))) else b_X7_haulFrom_133 M21 x0 x1 x2 x3 x4 x5 x6 x7)))
noncomputable def lp_X7_haulFrom_17 (M : gMem) (x0 : Nat) (x1 : Option Nat) (x2 : Option Nat) (x3 : Int32) (x4 : Int32) (x5 : Int32) (x6 : Int32) (x7 : Int32) : Option (Unit × gMem) :=
  lp (fun (q : gMem × Int32 × Int32 × Int32 × Int32) => bb_X7_haulFrom_17 q.1 x0 x1 x2 x3 q.2.1 q.2.2.1 q.2.2.2.1 q.2.2.2.2) (M, x4, x5, x6, x7)
noncomputable def b_X7_haulFrom_0 (M : gMem) (x0 : Nat) (x1 : Option Nat) (x2 : Option Nat) : Option (Unit × gMem) :=
  dr x2 fun a32 => ck (mT M a32 = 1) <| lp_X7_haulFrom_17 M x0 x1 x2 ((mI M a32 1)) ((0 : Int32)) ((0 : Int32)) ((0 : Int32)) ((5 : Int32))
noncomputable def f_X7_haulFrom (M : gMem) (x0 : Nat) (x1 : Option Nat) (x2 : Option Nat) : Option (Unit × gMem) :=
  b_X7_haulFrom_0 M x0 x1 x2
set_option maxHeartbeats 4000000 in
set_option maxRecDepth 100000 in
theorem t_X7_haulFrom_148 (X : gX p s m args meth c D cy B (gSt Z B H0) RX7 cX7_haulFrom wsX7_haulFrom 10) (hr : meth.sig.returnType = none) {Q : State → Prop} : ∀ (M : gMem)  (z : Unit × gMem), b_X7_haulFrom_148 M  = some z → (fun (r : Unit × gMem) => Q = gMQ below D cy B H0 args s 0 0 none r.2) z → gGo p l e rX7_haulFrom s m args below meth c D cy B H0 10 0 0 Q 148 [] [] M := by
  intro M  z hf hK
  unfold b_X7_haulFrom_148 at hf
  cases hf
  refine g_eqQ hK ?_
  exact g_vret X hr dX7_haulFrom_148
set_option maxHeartbeats 4000000 in
set_option maxRecDepth 100000 in
theorem t_X7_haulFrom_133 (X : gX p s m args meth c D cy B (gSt Z B H0) RX7 cX7_haulFrom wsX7_haulFrom 10) (hr : meth.sig.returnType = none) {Q : State → Prop} : ∀ (M : gMem) (x0 : Nat) (x1 : Option Nat) (x2 : Option Nat) (x3 : Int32) (x4 : Int32) (x5 : Int32) (x6 : Int32) (x7 : Int32) (z : (gMem × Int32 × Int32 × Int32 × Int32) ⊕ (Unit × gMem)), b_X7_haulFrom_133 M x0 x1 x2 x3 x4 x5 x6 x7 = some z → (Sum.elim (fun (q : gMem × Int32 × Int32 × Int32 × Int32) => gGo p l e rX7_haulFrom s m args below meth c D cy B H0 10 0 0 Q 17 [(0, vR (some x0)), (1, vR x1), (2, vR x2), (3, vI x3), (4, vI q.2.1), (5, vI q.2.2.1), (6, vI q.2.2.2.1), (7, vI q.2.2.2.2)] [] q.1) (fun (r : Unit × gMem) => Q = gMQ below D cy B H0 args s 0 0 none r.2)) z → gGo p l e rX7_haulFrom s m args below meth c D cy B H0 10 0 0 Q 133 [(0, vR (some x0)), (1, vR x1), (2, vR x2), (3, vI x3), (4, vI x4), (5, vI x5), (6, vI x6), (7, vI x7)] [] M := by
  intro M x0 x1 x2 x3 x4 x5 x6 x7 z hf hK
  unfold b_X7_haulFrom_133 at hf
  refine g_iinc (v := (-1 : Int32)) (lv' := [(7, vI (x7 + (-1 : Int32))), (0, vR (some x0)), (1, vR x1), (2, vR x2), (3, vI x3), (4, vI x4), (5, vI x5), (6, vI x6)]) X dX7_haulFrom_133 rfl (by decide) (by decide) rfl ?_
  refine g_goto (tgt := 17) X dX7_haulFrom_136 (by decide) ?_
  cases hf
  refine g_sub (lvsub_of _ _ [1, 2, 3, 4, 5, 6, 7, 0] rfl) ?_
  exact hK
set_option maxHeartbeats 4000000 in
set_option maxRecDepth 100000 in
theorem t_X7_haulFrom_105 (X : gX p s m args meth c D cy B (gSt Z B H0) RX7 cX7_haulFrom wsX7_haulFrom 10) (hr : meth.sig.returnType = none) {Q : State → Prop} : ∀ (M : gMem) (x0 : Nat) (x1 : Option Nat) (x2 : Option Nat) (x3 : Int32) (x4 : Int32) (x5 : Int32) (x6 : Int32) (x7 : Int32) (s0 : Option Nat) (s1 : Int32) (s2 : Int32) (z : (gMem × Int32 × Int32 × Int32 × Int32) ⊕ (Unit × gMem)), b_X7_haulFrom_105 M x0 x1 x2 x3 x4 x5 x6 x7 s0 s1 s2 = some z → (Sum.elim (fun (q : gMem × Int32 × Int32 × Int32 × Int32) => gGo p l e rX7_haulFrom s m args below meth c D cy B H0 10 0 0 Q 17 [(0, vR (some x0)), (1, vR x1), (2, vR x2), (3, vI x3), (4, vI q.2.1), (5, vI q.2.2.1), (6, vI q.2.2.2.1), (7, vI q.2.2.2.2)] [] q.1) (fun (r : Unit × gMem) => Q = gMQ below D cy B H0 args s 0 0 none r.2)) z → gGo p l e rX7_haulFrom s m args below meth c D cy B H0 10 0 0 Q 105 [(0, vR (some x0)), (1, vR x1), (2, vR x2), (3, vI x3), (4, vI x4), (5, vI x5), (6, vI x6), (7, vI x7)] [vI s2, vI s1, vR s0] M := by
  intro M x0 x1 x2 x3 x4 x5 x6 x7 s0 s1 s2 z hf hK
  unfold b_X7_haulFrom_105 at hf
  obtain ⟨a1, ha1, hf⟩ := dr_e hf
  obtain ⟨hT2, hf⟩ := ck_e hf
  obtain ⟨hg3, hf⟩ := ck_e hf
  refine g_iast X dX7_haulFrom_105 ha1 hT2 hg3 ?_
  obtain ⟨M4, hM4, hf⟩ := lw_e hf
  rw [← hM4]
  have hT5 : mT M4 a1 = 20 := by rw [hM4]; exact hT2
  refine g_iload X dX7_haulFrom_106 rfl ?_
  refine g_aload_n X dX7_haulFrom_108 rfl rfl ?_
  obtain ⟨hT6, hf⟩ := ck_e hf
  refine g_get (ci := 6) (v := vR (mR M4 x0 13)) 13 X cdX7 i_X7_haulFrom_X7 (by decide) k_X7_haulFrom_f53 rfl dX7_haulFrom_109 rfl hT6 rfl ?_
  refine g_iload X dX7_haulFrom_112 rfl ?_
  obtain ⟨a7, ha7, hf⟩ := dr_e hf
  obtain ⟨hT8, hf⟩ := ck_e hf
  obtain ⟨hg9, hf⟩ := ck_e hf
  refine g_iald X dX7_haulFrom_114 ha7 hT8 hg9 ?_
  refine g_iadd X dX7_haulFrom_115 ?_
  refine g_istore (lv' := [(4, vI (x4 + (mI M4 a7 x7.toNatClampNeg))), (0, vR (some x0)), (1, vR x1), (2, vR x2), (3, vI x3), (5, vI x5), (6, vI x6), (7, vI x7)]) X dX7_haulFrom_116 (by decide) rfl ?_
  refine g_iload X dX7_haulFrom_118 rfl ?_
  refine g_aload_n X dX7_haulFrom_120 rfl rfl ?_
  refine g_get (ci := 6) (v := vR (mR M4 x0 13)) 13 X cdX7 i_X7_haulFrom_X7 (by decide) k_X7_haulFrom_f53 rfl dX7_haulFrom_121 rfl hT6 rfl ?_
  refine g_iload X dX7_haulFrom_124 rfl ?_
  obtain ⟨hg10, hf⟩ := ck_e hf
  refine g_iald X dX7_haulFrom_126 ha7 hT8 hg10 ?_
  refine g_iload X dX7_haulFrom_127 rfl ?_
  refine g_imul X dX7_haulFrom_129 ?_
  refine g_iadd X dX7_haulFrom_130 ?_
  refine g_istore (lv' := [(5, vI (x5 + ((mI M4 a7 x7.toNatClampNeg) * x7))), (4, vI (x4 + (mI M4 a7 x7.toNatClampNeg))), (0, vR (some x0)), (1, vR x1), (2, vR x2), (3, vI x3), (6, vI x6), (7, vI x7)]) X dX7_haulFrom_131 (by decide) rfl ?_
  refine g_sub (lvsub_of _ _ [2, 3, 4, 5, 1, 0, 6, 7] rfl) ?_
  exact t_X7_haulFrom_133 X hr _ _ _ _ _ _ _ _ _ _ hf hK
set_option maxHeartbeats 4000000 in
set_option maxRecDepth 100000 in
theorem t_X7_haulFrom_85 (X : gX p s m args meth c D cy B (gSt Z B H0) RX7 cX7_haulFrom wsX7_haulFrom 10) (hr : meth.sig.returnType = none) {Q : State → Prop} : ∀ (M : gMem) (x0 : Nat) (x1 : Option Nat) (x2 : Option Nat) (x3 : Int32) (x4 : Int32) (x5 : Int32) (x7 : Int32) (x8 : Int32) (x9 : Int32) (s0 : Int32) (z : (gMem × Int32 × Int32 × Int32 × Int32) ⊕ (Unit × gMem)), b_X7_haulFrom_85 M x0 x1 x2 x3 x4 x5 x7 x8 x9 s0 = some z → (Sum.elim (fun (q : gMem × Int32 × Int32 × Int32 × Int32) => gGo p l e rX7_haulFrom s m args below meth c D cy B H0 10 0 0 Q 17 [(0, vR (some x0)), (1, vR x1), (2, vR x2), (3, vI x3), (4, vI q.2.1), (5, vI q.2.2.1), (6, vI q.2.2.2.1), (7, vI q.2.2.2.2)] [] q.1) (fun (r : Unit × gMem) => Q = gMQ below D cy B H0 args s 0 0 none r.2)) z → gGo p l e rX7_haulFrom s m args below meth c D cy B H0 10 0 0 Q 85 [(0, vR (some x0)), (1, vR x1), (2, vR x2), (3, vI x3), (4, vI x4), (5, vI x5), (7, vI x7), (8, vI x8), (9, vI x9)] [vI s0] M := by
  intro M x0 x1 x2 x3 x4 x5 x7 x8 x9 s0 z hf hK
  unfold b_X7_haulFrom_85 at hf
  refine g_istore (lv' := [(6, vI s0), (0, vR (some x0)), (1, vR x1), (2, vR x2), (3, vI x3), (4, vI x4), (5, vI x5), (7, vI x7), (8, vI x8), (9, vI x9)]) X dX7_haulFrom_85 (by decide) rfl ?_
  refine g_aload_n X dX7_haulFrom_87 rfl rfl ?_
  obtain ⟨hT11, hf⟩ := ck_e hf
  refine g_get (ci := 6) (v := vR (mR M x0 13)) 13 X cdX7 i_X7_haulFrom_X7 (by decide) k_X7_haulFrom_f53 rfl dX7_haulFrom_88 rfl hT11 rfl ?_
  refine g_iload X dX7_haulFrom_91 rfl ?_
  refine g_iload X dX7_haulFrom_93 rfl ?_
  refine g_if_eq (tgt := 103) X dX7_haulFrom_95 (by decide) (fun hc => ?_) (fun hc => ?_)
  · have hf := ife_t hc hf
    refine g_iload X dX7_haulFrom_103 rfl ?_
    refine g_sub (lvsub_of _ _ [1, 2, 3, 4, 5, 6, 0, 7] rfl) ?_
    exact t_X7_haulFrom_105 X hr _ _ _ _ _ _ _ _ _ _ _ _ _ hf hK
  · have hf := ife_f hc hf
    refine g_iload X dX7_haulFrom_98 rfl ?_
    refine g_goto (tgt := 105) X dX7_haulFrom_100 (by decide) ?_
    refine g_sub (lvsub_of _ _ [1, 2, 3, 4, 5, 6, 0, 7] rfl) ?_
    exact t_X7_haulFrom_105 X hr _ _ _ _ _ _ _ _ _ _ _ _ _ hf hK
set_option maxHeartbeats 4000000 in
set_option maxRecDepth 100000 in
theorem tb_X7_haulFrom_17 (X : gX p s m args meth c D cy B (gSt Z B H0) RX7 cX7_haulFrom wsX7_haulFrom 10) (hr : meth.sig.returnType = none) {Q : State → Prop} : ∀ (M : gMem) (x0 : Nat) (x1 : Option Nat) (x2 : Option Nat) (x3 : Int32) (x4 : Int32) (x5 : Int32) (x6 : Int32) (x7 : Int32) (z : (gMem × Int32 × Int32 × Int32 × Int32) ⊕ (Unit × gMem)), bb_X7_haulFrom_17 M x0 x1 x2 x3 x4 x5 x6 x7 = some z → (Sum.elim (fun (q : gMem × Int32 × Int32 × Int32 × Int32) => gGo p l e rX7_haulFrom s m args below meth c D cy B H0 10 0 0 Q 17 [(0, vR (some x0)), (1, vR x1), (2, vR x2), (3, vI x3), (4, vI q.2.1), (5, vI q.2.2.1), (6, vI q.2.2.2.1), (7, vI q.2.2.2.2)] [] q.1) (fun (r : Unit × gMem) => Q = gMQ below D cy B H0 args s 0 0 none r.2)) z → gGo p l e rX7_haulFrom s m args below meth c D cy B H0 10 0 0 Q 17 [(0, vR (some x0)), (1, vR x1), (2, vR x2), (3, vI x3), (4, vI x4), (5, vI x5), (6, vI x6), (7, vI x7)] [] M := by
  intro M x0 x1 x2 x3 x4 x5 x6 x7 z hf hK
  unfold bb_X7_haulFrom_17 at hf
  refine g_iload X dX7_haulFrom_17 rfl ?_
  refine g_iconst (v := (1 : Int32)) X dX7_haulFrom_19 (by decide) ?_
  refine g_icmp_lt (tgt := 139) X dX7_haulFrom_20 (by decide) (fun hc => ?_) (fun hc => ?_)
  · have hf := ife_t hc hf
    refine g_iload X dX7_haulFrom_139 rfl ?_
    refine g_if_eq (tgt := 148) X dX7_haulFrom_141 (by decide) (fun hc => ?_) (fun hc => ?_)
    · have hf := ife_t hc hf
      obtain ⟨w12, hw12, hz12⟩ := oI_e hf
      subst hz12
      have hf := hw12
      refine g_sub (lvsub_of _ _ [] rfl) ?_
      exact t_X7_haulFrom_148 X hr _  _ hf hK
    · have hf := ife_f hc hf
      refine g_aload_n X dX7_haulFrom_144 rfl rfl ?_
      obtain ⟨a14, ha14, hf⟩ := dr_e hf
      obtain ⟨hT15, hf⟩ := ck_e hf
      obtain ⟨r13, M13, hq13, hf⟩ := bd_e hf
      refine g_callV (ci := 0) (b := a14) (As := []) (st := []) (v := none) (M1 := M13) X (m_X1_tear l hq13) (cwV 0 X.2.2.1 gX7_haulFrom_X1_tear rfl rfl rfl (by decide +kernel) ⟨Nat.le_of_ble_eq_true rfl, Nat.le_of_ble_eq_true rfl⟩) rfl rfl ha14 hT15 (by decide) rfl (Nat.le_of_ble_eq_true rfl) dX7_haulFrom_145 ⟨by decide, by decide⟩ ?_
      obtain ⟨w16, hw16, hz16⟩ := oI_e hf
      subst hz16
      have hf := hw16
      refine g_sub (lvsub_of _ _ [] rfl) ?_
      exact t_X7_haulFrom_148 X hr _  _ hf hK
  · have hf := ife_f hc hf
    refine g_aload_n X dX7_haulFrom_23 rfl rfl ?_
    obtain ⟨hT17, hf⟩ := ck_e hf
    refine g_get (ci := 6) (v := vR (mR M x0 13)) 13 X cdX7 i_X7_haulFrom_X7 (by decide) k_X7_haulFrom_f53 rfl dX7_haulFrom_24 rfl hT17 rfl ?_
    refine g_iload X dX7_haulFrom_27 rfl ?_
    refine g_iconst (v := (0 : Int32)) X dX7_haulFrom_29 (by decide) ?_
    obtain ⟨a18, ha18, hf⟩ := dr_e hf
    obtain ⟨hT19, hf⟩ := ck_e hf
    obtain ⟨hg20, hf⟩ := ck_e hf
    refine g_iast X dX7_haulFrom_30 ha18 hT19 hg20 ?_
    obtain ⟨M21, hM21, hf⟩ := lw_e hf
    rw [← hM21]
    have hT22 : mT M21 x0 = 7 := by rw [hM21]; exact hT17
    have hT23 : mT M21 a18 = 20 := by rw [hM21]; exact hT19
    refine g_iload X dX7_haulFrom_31 rfl ?_
    refine g_iload_n X dX7_haulFrom_33 rfl rfl ?_
    refine g_icmp_lt (tgt := 133) X dX7_haulFrom_34 (by decide) (fun hc => ?_) (fun hc => ?_)
    · have hf := ife_t hc hf
      refine g_sub (lvsub_of _ _ [0, 1, 2, 3, 4, 5, 6, 7] rfl) ?_
      exact t_X7_haulFrom_133 X hr _ _ _ _ _ _ _ _ _ _ hf hK
    · have hf := ife_f hc hf
      refine g_iload X dX7_haulFrom_37 rfl ?_
      refine g_if_ne (tgt := 133) X dX7_haulFrom_39 (by decide) (fun hc => ?_) (fun hc => ?_)
      · have hf := ife_f hc hf
        refine g_sub (lvsub_of _ _ [0, 1, 2, 3, 4, 5, 6, 7] rfl) ?_
        exact t_X7_haulFrom_133 X hr _ _ _ _ _ _ _ _ _ _ hf hK
      · have hf := ife_t hc hf
        refine g_aload_n X dX7_haulFrom_42 rfl rfl ?_
        obtain ⟨a24, ha24, hf⟩ := dr_e hf
        obtain ⟨hT25, hf⟩ := ck_e hf
        refine g_get (ci := 2) (v := vR (mR M21 a24 3)) 3 X cdX3 i_X7_haulFrom_X3 (by decide) k_X7_haulFrom_f210 rfl dX7_haulFrom_43 ha24 hT25 rfl ?_
        refine g_iload X dX7_haulFrom_46 rfl ?_
        obtain ⟨a26, ha26, hf⟩ := dr_e hf
        obtain ⟨hT27, hf⟩ := ck_e hf
        obtain ⟨hg28, hf⟩ := ck_e hf
        refine g_iald X dX7_haulFrom_48 ha26 hT27 hg28 ?_
        refine g_aload_n X dX7_haulFrom_49 rfl rfl ?_
        obtain ⟨a29, ha29, hf⟩ := dr_e hf
        obtain ⟨hT30, hf⟩ := ck_e hf
        refine g_get (ci := 0) (v := vI (mI M21 a29 3)) 3 X cdX1 i_X7_haulFrom_X1 (by decide) k_X7_haulFrom_f213 rfl dX7_haulFrom_50 ha29 hT30 rfl ?_
        refine g_iload X dX7_haulFrom_53 rfl ?_
        refine g_isub X dX7_haulFrom_55 ?_
        refine g_min X k_X7_haulFrom_m87 k_X7_haulFrom_mmins k_X7_haulFrom_mi k_X7_haulFrom_mminc (Nat.le_of_ble_eq_true rfl) (Nat.le_of_ble_eq_true rfl) ⟨by decide, by decide⟩ dX7_haulFrom_56 ?_
        refine g_istore (lv' := [(8, vI (imin ((mI M21 a26 x7.toNatClampNeg)) (((mI M21 a29 3) - x4)))), (0, vR (some x0)), (1, vR x1), (2, vR x2), (3, vI x3), (4, vI x4), (5, vI x5), (6, vI x6), (7, vI x7)]) X dX7_haulFrom_59 (by decide) rfl ?_
        refine g_aload_n X dX7_haulFrom_61 rfl rfl ?_
        refine g_get (ci := 0) (v := vI (mI M21 a29 2)) 2 X cdX1 i_X7_haulFrom_X1 (by decide) k_X7_haulFrom_f216 rfl dX7_haulFrom_62 ha29 hT30 rfl ?_
        refine g_iload X dX7_haulFrom_65 rfl ?_
        refine g_isub X dX7_haulFrom_67 ?_
        refine g_iload X dX7_haulFrom_68 rfl ?_
        obtain ⟨hg31, hf⟩ := ck_e hf
        refine g_idiv X dX7_haulFrom_70 hg31 ?_
        refine g_istore (lv' := [(9, vI (((mI M21 a29 2) - x5) / x7)), (8, vI (imin ((mI M21 a26 x7.toNatClampNeg)) (((mI M21 a29 3) - x4)))), (0, vR (some x0)), (1, vR x1), (2, vR x2), (3, vI x3), (4, vI x4), (5, vI x5), (6, vI x6), (7, vI x7)]) X dX7_haulFrom_71 (by decide) rfl ?_
        refine g_iload X dX7_haulFrom_73 rfl ?_
        refine g_iload X dX7_haulFrom_75 rfl ?_
        refine g_icmp_le (tgt := 84) X dX7_haulFrom_77 (by decide) (fun hc => ?_) (fun hc => ?_)
        · have hf := ife_t hc hf
          refine g_iconst (v := (0 : Int32)) X dX7_haulFrom_84 (by decide) ?_
          refine g_sub (lvsub_of _ _ [2, 3, 4, 5, 6, 7, 9, 1, 0] rfl) ?_
          exact t_X7_haulFrom_85 X hr _ _ _ _ _ _ _ _ _ _ _ _ hf hK
        · have hf := ife_f hc hf
          refine g_iconst (v := (1 : Int32)) X dX7_haulFrom_80 (by decide) ?_
          refine g_goto (tgt := 85) X dX7_haulFrom_81 (by decide) ?_
          refine g_sub (lvsub_of _ _ [2, 3, 4, 5, 6, 7, 9, 1, 0] rfl) ?_
          exact t_X7_haulFrom_85 X hr _ _ _ _ _ _ _ _ _ _ _ _ hf hK
set_option maxHeartbeats 4000000 in
set_option maxRecDepth 100000 in
theorem tl_X7_haulFrom_17 (X : gX p s m args meth c D cy B (gSt Z B H0) RX7 cX7_haulFrom wsX7_haulFrom 10) (hr : meth.sig.returnType = none) {Q : State → Prop} : ∀ (M : gMem) (x0 : Nat) (x1 : Option Nat) (x2 : Option Nat) (x3 : Int32) (x4 : Int32) (x5 : Int32) (x6 : Int32) (x7 : Int32) (z : Unit × gMem), lp_X7_haulFrom_17 M x0 x1 x2 x3 x4 x5 x6 x7 = some z → (fun (r : Unit × gMem) => Q = gMQ below D cy B H0 args s 0 0 none r.2) z → gGo p l e rX7_haulFrom s m args below meth c D cy B H0 10 0 0 Q 17 [(0, vR (some x0)), (1, vR x1), (2, vR x2), (3, vI x3), (4, vI x4), (5, vI x5), (6, vI x6), (7, vI x7)] [] M := by
  intro M x0 x1 x2 x3 x4 x5 x6 x7 z hf hK
  refine lp_ind (P := (fun (q : gMem × Int32 × Int32 × Int32 × Int32) (z : Unit × gMem) => (fun (r : Unit × gMem) => Q = gMQ below D cy B H0 args s 0 0 none r.2) z → gGo p l e rX7_haulFrom s m args below meth c D cy B H0 10 0 0 Q 17 [(0, vR (some x0)), (1, vR x1), (2, vR x2), (3, vI x3), (4, vI q.2.1), (5, vI q.2.2.1), (6, vI q.2.2.2.1), (7, vI q.2.2.2.2)] [] q.1)) (fun q z hq => ?_) _ _ hf hK
  intro hK
  obtain ⟨w, hw, hm⟩ := hq
  refine tb_X7_haulFrom_17 X hr _ _ _ _ _ _ _ _ _ w hw ?_
  cases w with
  | inl a => exact hm hK
  | inr b => cases hm; exact hK
set_option maxHeartbeats 4000000 in
set_option maxRecDepth 100000 in
theorem t_X7_haulFrom_0 (X : gX p s m args meth c D cy B (gSt Z B H0) RX7 cX7_haulFrom wsX7_haulFrom 10) (hr : meth.sig.returnType = none) {Q : State → Prop} : ∀ (M : gMem) (x0 : Nat) (x1 : Option Nat) (x2 : Option Nat) (z : Unit × gMem), b_X7_haulFrom_0 M x0 x1 x2 = some z → (fun (r : Unit × gMem) => Q = gMQ below D cy B H0 args s 0 0 none r.2) z → gGo p l e rX7_haulFrom s m args below meth c D cy B H0 10 0 0 Q 0 [(0, vR (some x0)), (1, vR x1), (2, vR x2)] [] M := by
  intro M x0 x1 x2 z hf hK
  unfold b_X7_haulFrom_0 at hf
  refine g_aload_n X dX7_haulFrom_0 rfl rfl ?_
  obtain ⟨a32, ha32, hf⟩ := dr_e hf
  obtain ⟨hT33, hf⟩ := ck_e hf
  refine g_get (ci := 0) (v := vI (mI M a32 1)) 1 X cdX1 i_X7_haulFrom_X1 (by decide) k_X7_haulFrom_f119 rfl dX7_haulFrom_1 ha32 hT33 rfl ?_
  refine g_istore_n (lv' := [(3, vI (mI M a32 1)), (0, vR (some x0)), (1, vR x1), (2, vR x2)]) X dX7_haulFrom_4 rfl (by decide) rfl ?_
  refine g_iconst (v := (0 : Int32)) X dX7_haulFrom_5 (by decide) ?_
  refine g_istore (lv' := [(4, vI (0 : Int32)), (3, vI (mI M a32 1)), (0, vR (some x0)), (1, vR x1), (2, vR x2)]) X dX7_haulFrom_6 (by decide) rfl ?_
  refine g_iconst (v := (0 : Int32)) X dX7_haulFrom_8 (by decide) ?_
  refine g_istore (lv' := [(5, vI (0 : Int32)), (4, vI (0 : Int32)), (3, vI (mI M a32 1)), (0, vR (some x0)), (1, vR x1), (2, vR x2)]) X dX7_haulFrom_9 (by decide) rfl ?_
  refine g_iconst (v := (0 : Int32)) X dX7_haulFrom_11 (by decide) ?_
  refine g_istore (lv' := [(6, vI (0 : Int32)), (5, vI (0 : Int32)), (4, vI (0 : Int32)), (3, vI (mI M a32 1)), (0, vR (some x0)), (1, vR x1), (2, vR x2)]) X dX7_haulFrom_12 (by decide) rfl ?_
  refine g_iconst (v := (5 : Int32)) X dX7_haulFrom_14 (by decide) ?_
  refine g_istore (lv' := [(7, vI (5 : Int32)), (6, vI (0 : Int32)), (5, vI (0 : Int32)), (4, vI (0 : Int32)), (3, vI (mI M a32 1)), (0, vR (some x0)), (1, vR x1), (2, vR x2)]) X dX7_haulFrom_15 (by decide) rfl ?_
  refine g_sub (lvsub_of _ _ [5, 6, 7, 4, 3, 2, 1, 0] rfl) ?_
  exact tl_X7_haulFrom_17 X hr _ _ _ _ _ _ _ _ _ _ hf hK
set_option maxHeartbeats 4000000 in
set_option maxRecDepth 100000 in
theorem m_X7_haulFrom (l : Launch) {D : va_G} {cy : Nat → ClassId} {B : Nat} {H0 : Heap} {Z : Nat → Nat} {M M1 : gMem} {x0 : Nat} {x1 : Option Nat} {x2 : Option Nat} {r : Unit} (hf : f_X7_haulFrom M x0 x1 x2 = some (r, M1)) : Met l yX7_haulFrom wsX7_haulFrom rX7_haulFrom (va_Pc (Value.ref x0 :: List.map gv [vR x1, vR x2]) (gPre D cy B H0 (gSt Z B H0) M)) (gQ D cy B H0 none M1) 0 0 (gA B) := by
  refine Met.ofW (cc := cX7_haulFrom) (maxL := 10) (ret := none) (by decide) rfl ?_
  intro p e s m args below meth c s₁ Bd hml hv
  obtain ⟨rfl, hW, hKK, hFs⟩ := hv
  have X : gX p s m _ meth c D cy B (gSt Z B H0) RX7 cX7_haulFrom wsX7_haulFrom 10 := ⟨Bd.exec, Bd.bytes, atoms_spec (ws := wsX7_haulFrom) Bd.pre, findClass_of_methodNamed Bd.named, hml, hKK, by rw [hW.1]; exact hW.2.1, Bd.notSynchronized, hFs⟩
  have hr := Bd.returns
  rcases x1 with _ | x1
  · rcases x2 with _ | x2
    · have hl := lv_entry ([.ref x0, .null, .null]) (n := 10) (Nat.le_of_ble_eq_true rfl)
      show W p l e rX7_haulFrom s m _ below meth c s.heap [] 0 0 _ (entryFrame m ([.ref x0, .null, .null] : List Value).toArray 10)
      rw [lg_entry_eq]
      generalize (lg_sl ([.ref x0, .null, .null]) ++ List.replicate (10 - (lg_sl ([.ref x0, .null, .null])).length) Slot.unset).toArray = ls at hl ⊢
      have hl : lv_has ls 10 (List.map gq [(0, vR (some x0)), (1, vR none), (2, vR none)]) := hl
      exact t_X7_haulFrom_0 X hr _ _ _ _ _ hf rfl s.heap [] ls hW va_S.rf (lv_has_sub hl (lvsub_of _ _ [0, 1, 2] rfl))
    · have hl := lv_entry ([.ref x0, .null, .ref x2]) (n := 10) (Nat.le_of_ble_eq_true rfl)
      show W p l e rX7_haulFrom s m _ below meth c s.heap [] 0 0 _ (entryFrame m ([.ref x0, .null, .ref x2] : List Value).toArray 10)
      rw [lg_entry_eq]
      generalize (lg_sl ([.ref x0, .null, .ref x2]) ++ List.replicate (10 - (lg_sl ([.ref x0, .null, .ref x2])).length) Slot.unset).toArray = ls at hl ⊢
      have hl : lv_has ls 10 (List.map gq [(0, vR (some x0)), (1, vR none), (2, vR (some x2))]) := hl
      exact t_X7_haulFrom_0 X hr _ _ _ _ _ hf rfl s.heap [] ls hW va_S.rf (lv_has_sub hl (lvsub_of _ _ [0, 1, 2] rfl))
  · rcases x2 with _ | x2
    · have hl := lv_entry ([.ref x0, .ref x1, .null]) (n := 10) (Nat.le_of_ble_eq_true rfl)
      show W p l e rX7_haulFrom s m _ below meth c s.heap [] 0 0 _ (entryFrame m ([.ref x0, .ref x1, .null] : List Value).toArray 10)
      rw [lg_entry_eq]
      generalize (lg_sl ([.ref x0, .ref x1, .null]) ++ List.replicate (10 - (lg_sl ([.ref x0, .ref x1, .null])).length) Slot.unset).toArray = ls at hl ⊢
      have hl : lv_has ls 10 (List.map gq [(0, vR (some x0)), (1, vR (some x1)), (2, vR none)]) := hl
      exact t_X7_haulFrom_0 X hr _ _ _ _ _ hf rfl s.heap [] ls hW va_S.rf (lv_has_sub hl (lvsub_of _ _ [0, 1, 2] rfl))
    · have hl := lv_entry ([.ref x0, .ref x1, .ref x2]) (n := 10) (Nat.le_of_ble_eq_true rfl)
      show W p l e rX7_haulFrom s m _ below meth c s.heap [] 0 0 _ (entryFrame m ([.ref x0, .ref x1, .ref x2] : List Value).toArray 10)
      rw [lg_entry_eq]
      generalize (lg_sl ([.ref x0, .ref x1, .ref x2]) ++ List.replicate (10 - (lg_sl ([.ref x0, .ref x1, .ref x2])).length) Slot.unset).toArray = ls at hl ⊢
      have hl : lv_has ls 10 (List.map gq [(0, vR (some x0)), (1, vR (some x1)), (2, vR (some x2))]) := hl
      exact t_X7_haulFrom_0 X hr _ _ _ _ _ hf rfl s.heap [] ls hW va_S.rf (lv_has_sub hl (lvsub_of _ _ [0, 1, 2] rfl))
/-! ## TideLots$Shore.landHaul(LTideLots$Ground;LTideLots$Fisher;)I -/
theorem dX7_landHaul_0 : decode cX7_landHaul 0 = .ok (.iconst 0, 1) := by decide +kernel
theorem dX7_landHaul_1 : decode cX7_landHaul 1 = .ok (.istore_n 3, 1) := by decide +kernel
theorem dX7_landHaul_2 : decode cX7_landHaul 2 = .ok (.iconst 1, 1) := by decide +kernel
theorem dX7_landHaul_3 : decode cX7_landHaul 3 = .ok (.istore 4, 2) := by decide +kernel
theorem dX7_landHaul_5 : decode cX7_landHaul 5 = .ok (.iload 4, 2) := by decide +kernel
theorem dX7_landHaul_7 : decode cX7_landHaul 7 = .ok (.iconst 5, 1) := by decide +kernel
theorem dX7_landHaul_8 : decode cX7_landHaul 8 = .ok (.if_icmp .gt 64, 3) := by decide +kernel
theorem dX7_landHaul_11 : decode cX7_landHaul 11 = .ok (.iload 4, 2) := by decide +kernel
theorem dX7_landHaul_13 : decode cX7_landHaul 13 = .ok (.aload_n 2, 1) := by decide +kernel
theorem dX7_landHaul_14 : decode cX7_landHaul 14 = .ok (.getfield 119, 3) := by decide +kernel
theorem dX7_landHaul_17 : decode cX7_landHaul 17 = .ok (.if_icmp .lt 49, 3) := by decide +kernel
theorem dX7_landHaul_20 : decode cX7_landHaul 20 = .ok (.iload_n 3, 1) := by decide +kernel
theorem dX7_landHaul_21 : decode cX7_landHaul 21 = .ok (.aload_n 0, 1) := by decide +kernel
theorem dX7_landHaul_22 : decode cX7_landHaul 22 = .ok (.getfield 53, 3) := by decide +kernel
theorem dX7_landHaul_25 : decode cX7_landHaul 25 = .ok (.iload 4, 2) := by decide +kernel
theorem dX7_landHaul_27 : decode cX7_landHaul 27 = .ok (.iaload, 1) := by decide +kernel
theorem dX7_landHaul_28 : decode cX7_landHaul 28 = .ok (.iadd, 1) := by decide +kernel
theorem dX7_landHaul_29 : decode cX7_landHaul 29 = .ok (.istore_n 3, 1) := by decide +kernel
theorem dX7_landHaul_30 : decode cX7_landHaul 30 = .ok (.aload_n 2, 1) := by decide +kernel
theorem dX7_landHaul_31 : decode cX7_landHaul 31 = .ok (.dup, 1) := by decide +kernel
theorem dX7_landHaul_32 : decode cX7_landHaul 32 = .ok (.getfield 196, 3) := by decide +kernel
theorem dX7_landHaul_35 : decode cX7_landHaul 35 = .ok (.aload_n 0, 1) := by decide +kernel
theorem dX7_landHaul_36 : decode cX7_landHaul 36 = .ok (.getfield 53, 3) := by decide +kernel
theorem dX7_landHaul_39 : decode cX7_landHaul 39 = .ok (.iload 4, 2) := by decide +kernel
theorem dX7_landHaul_41 : decode cX7_landHaul 41 = .ok (.iaload, 1) := by decide +kernel
theorem dX7_landHaul_42 : decode cX7_landHaul 42 = .ok (.iload 4, 2) := by decide +kernel
theorem dX7_landHaul_44 : decode cX7_landHaul 44 = .ok (.imul, 1) := by decide +kernel
theorem dX7_landHaul_45 : decode cX7_landHaul 45 = .ok (.iadd, 1) := by decide +kernel
theorem dX7_landHaul_46 : decode cX7_landHaul 46 = .ok (.putfield 196, 3) := by decide +kernel
theorem dX7_landHaul_49 : decode cX7_landHaul 49 = .ok (.aload_n 1, 1) := by decide +kernel
theorem dX7_landHaul_50 : decode cX7_landHaul 50 = .ok (.getfield 210, 3) := by decide +kernel
theorem dX7_landHaul_53 : decode cX7_landHaul 53 = .ok (.iload 4, 2) := by decide +kernel
theorem dX7_landHaul_55 : decode cX7_landHaul 55 = .ok (.dup2, 1) := by decide +kernel
theorem dX7_landHaul_56 : decode cX7_landHaul 56 = .ok (.iaload, 1) := by decide +kernel
theorem dX7_landHaul_57 : decode cX7_landHaul 57 = .ok (.aload_n 0, 1) := by decide +kernel
theorem dX7_landHaul_58 : decode cX7_landHaul 58 = .ok (.getfield 53, 3) := by decide +kernel
theorem dX7_landHaul_61 : decode cX7_landHaul 61 = .ok (.iload 4, 2) := by decide +kernel
theorem dX7_landHaul_63 : decode cX7_landHaul 63 = .ok (.iaload, 1) := by decide +kernel
theorem dX7_landHaul_64 : decode cX7_landHaul 64 = .ok (.isub, 1) := by decide +kernel
theorem dX7_landHaul_65 : decode cX7_landHaul 65 = .ok (.iastore, 1) := by decide +kernel
theorem dX7_landHaul_66 : decode cX7_landHaul 66 = .ok (.iinc 4 1, 3) := by decide +kernel
theorem dX7_landHaul_69 : decode cX7_landHaul 69 = .ok (.goto (-64), 3) := by decide +kernel
theorem dX7_landHaul_72 : decode cX7_landHaul 72 = .ok (.aload_n 2, 1) := by decide +kernel
theorem dX7_landHaul_73 : decode cX7_landHaul 73 = .ok (.dup, 1) := by decide +kernel
theorem dX7_landHaul_74 : decode cX7_landHaul 74 = .ok (.getfield 222, 3) := by decide +kernel
theorem dX7_landHaul_77 : decode cX7_landHaul 77 = .ok (.iload_n 3, 1) := by decide +kernel
theorem dX7_landHaul_78 : decode cX7_landHaul 78 = .ok (.iadd, 1) := by decide +kernel
theorem dX7_landHaul_79 : decode cX7_landHaul 79 = .ok (.putfield 222, 3) := by decide +kernel
theorem dX7_landHaul_82 : decode cX7_landHaul 82 = .ok (.aload_n 1, 1) := by decide +kernel
theorem dX7_landHaul_83 : decode cX7_landHaul 83 = .ok (.dup, 1) := by decide +kernel
theorem dX7_landHaul_84 : decode cX7_landHaul 84 = .ok (.getfield 225, 3) := by decide +kernel
theorem dX7_landHaul_87 : decode cX7_landHaul 87 = .ok (.iload_n 3, 1) := by decide +kernel
theorem dX7_landHaul_88 : decode cX7_landHaul 88 = .ok (.iadd, 1) := by decide +kernel
theorem dX7_landHaul_89 : decode cX7_landHaul 89 = .ok (.putfield 225, 3) := by decide +kernel
theorem dX7_landHaul_92 : decode cX7_landHaul 92 = .ok (.iload_n 3, 1) := by decide +kernel
theorem dX7_landHaul_93 : decode cX7_landHaul 93 = .ok (.ireturn, 1) := by decide +kernel
theorem k_X7_landHaul_f222 : Cond.fieldLink RX7 222 "TideLots$Fisher" "caught" "I" ∈ wsX7_landHaul := by decide +kernel
theorem i_X7_landHaul_X1 : ∀ w ∈ u_ws RX1 TX1 11, w ∈ wsX7_landHaul := by decide +kernel
theorem k_X7_landHaul_f225 : Cond.fieldLink RX7 225 "TideLots$Ground" "caught" "I" ∈ wsX7_landHaul := by decide +kernel
theorem i_X7_landHaul_X3 : ∀ w ∈ u_ws RX3 TX3 4, w ∈ wsX7_landHaul := by decide +kernel
theorem k_X7_landHaul_f119 : Cond.fieldLink RX7 119 "TideLots$Fisher" "mesh" "I" ∈ wsX7_landHaul := by decide +kernel
theorem k_X7_landHaul_f53 : Cond.fieldLink RX7 53 "TideLots$Shore" "haul" "[I" ∈ wsX7_landHaul := by decide +kernel
theorem i_X7_landHaul_X7 : ∀ w ∈ u_ws RX7 TX7 17, w ∈ wsX7_landHaul := by decide +kernel
theorem k_X7_landHaul_f196 : Cond.fieldLink RX7 196 "TideLots$Fisher" "latest" "I" ∈ wsX7_landHaul := by decide +kernel
theorem k_X7_landHaul_f210 : Cond.fieldLink RX7 210 "TideLots$Ground" "fish" "[I" ∈ wsX7_landHaul := by decide +kernel
abbrev rX7_landHaul : Room := { frames := 0, cells := 0, slots := 0, locals := 0 }
noncomputable def b_X7_landHaul_66 (M : gMem) (x0 : Nat) (x1 : Option Nat) (x2 : Option Nat) (x3 : Int32) (x4 : Int32) : Option ((gMem × Int32 × Int32) ⊕ (Int32 × gMem)) :=
  some (.inl (M, x3, (x4 + (1 : Int32))))
noncomputable def bb_X7_landHaul_5 (M : gMem) (x0 : Nat) (x1 : Option Nat) (x2 : Option Nat) (x3 : Int32) (x4 : Int32) : Option ((gMem × Int32 × Int32) ⊕ (Int32 × gMem)) :=
  (if (5 : Int32) < x4 then dr x2 fun a1 => ck (mT M a1 = 1) <| lw (wI M a1 8 (((mI M a1 8) + x3))) fun M3 => dr x1 fun a5 => ck (mT M3 a5 = 3) <| lw (wI M3 a5 2 (((mI M3 a5 2) + x3))) fun M7 => oI (some (x3, M7)) else dr x2 fun a11 => ck (mT M a11 = 1) <| (if x4 < (mI M a11 1) then b_X7_landHaul_66 M x0 x1 x2 x3 x4 else ck (mT M x0 = 7) <| dr ((mR M x0 13)) fun a14 => ck (mT M a14 = 20) <| ck (inb x4 (mL M a14)) <| ck (inb x4 (mL M a14)) <| lw (wI M a11 5 (((mI M a11 5) + ((mI M a14 x4.toNatClampNeg) * x4)))) fun M18 => dr x1 fun a22 => ck (mT M18 a22 = 3) <| dr ((mR M18 a22 3)) fun a24 => ck (mT M18 a24 = 20) <| ck (inb x4 (mL M18 a24)) <| dr ((mR M18 x0 13)) fun a27 => ck (mT M18 a27 = 20) <| ck (inb x4 (mL M18 a27)) <| ck (inb x4 (mL M18 a24)) <| lw (wI M18 a24 x4.toNatClampNeg (((mI M18 a24 x4.toNatClampNeg) - (mI M18 a27 x4.toNatClampNeg)))) fun M31 => b_X7_landHaul_66 M31 x0 x1 x2 ((x3 + (mI M a14 x4.toNatClampNeg))) x4))
noncomputable def lp_X7_landHaul_5 (M : gMem) (x0 : Nat) (x1 : Option Nat) (x2 : Option Nat) (x3 : Int32) (x4 : Int32) : Option (Int32 × gMem) :=
  lp (fun (q : gMem × Int32 × Int32) => bb_X7_landHaul_5 q.1 x0 x1 x2 q.2.1 q.2.2) (M, x3, x4)
noncomputable def b_X7_landHaul_0 (M : gMem) (x0 : Nat) (x1 : Option Nat) (x2 : Option Nat) : Option (Int32 × gMem) :=
  lp_X7_landHaul_5 M x0 x1 x2 ((0 : Int32)) ((1 : Int32))
noncomputable def f_X7_landHaul (M : gMem) (x0 : Nat) (x1 : Option Nat) (x2 : Option Nat) : Option (Int32 × gMem) :=
  b_X7_landHaul_0 M x0 x1 x2
set_option maxHeartbeats 4000000 in
set_option maxRecDepth 100000 in
theorem t_X7_landHaul_66 (X : gX p s m args meth c D cy B (gSt Z B H0) RX7 cX7_landHaul wsX7_landHaul 5) (hr : meth.sig.returnType = (some .int)) {Q : State → Prop} : ∀ (M : gMem) (x0 : Nat) (x1 : Option Nat) (x2 : Option Nat) (x3 : Int32) (x4 : Int32) (z : (gMem × Int32 × Int32) ⊕ (Int32 × gMem)), b_X7_landHaul_66 M x0 x1 x2 x3 x4 = some z → (Sum.elim (fun (q : gMem × Int32 × Int32) => gGo p l e rX7_landHaul s m args below meth c D cy B H0 5 0 0 Q 5 [(0, vR (some x0)), (1, vR x1), (2, vR x2), (3, vI q.2.1), (4, vI q.2.2)] [] q.1) (fun (r : Int32 × gMem) => Q = gMQ below D cy B H0 args s 0 0 (some (vI r.1)) r.2)) z → gGo p l e rX7_landHaul s m args below meth c D cy B H0 5 0 0 Q 66 [(0, vR (some x0)), (1, vR x1), (2, vR x2), (3, vI x3), (4, vI x4)] [] M := by
  intro M x0 x1 x2 x3 x4 z hf hK
  unfold b_X7_landHaul_66 at hf
  refine g_iinc (v := (1 : Int32)) (lv' := [(4, vI (x4 + (1 : Int32))), (0, vR (some x0)), (1, vR x1), (2, vR x2), (3, vI x3)]) X dX7_landHaul_66 rfl (by decide) (by decide) rfl ?_
  refine g_goto (tgt := 5) X dX7_landHaul_69 (by decide) ?_
  cases hf
  refine g_sub (lvsub_of _ _ [1, 2, 3, 4, 0] rfl) ?_
  exact hK
set_option maxHeartbeats 4000000 in
set_option maxRecDepth 100000 in
theorem tb_X7_landHaul_5 (X : gX p s m args meth c D cy B (gSt Z B H0) RX7 cX7_landHaul wsX7_landHaul 5) (hr : meth.sig.returnType = (some .int)) {Q : State → Prop} : ∀ (M : gMem) (x0 : Nat) (x1 : Option Nat) (x2 : Option Nat) (x3 : Int32) (x4 : Int32) (z : (gMem × Int32 × Int32) ⊕ (Int32 × gMem)), bb_X7_landHaul_5 M x0 x1 x2 x3 x4 = some z → (Sum.elim (fun (q : gMem × Int32 × Int32) => gGo p l e rX7_landHaul s m args below meth c D cy B H0 5 0 0 Q 5 [(0, vR (some x0)), (1, vR x1), (2, vR x2), (3, vI q.2.1), (4, vI q.2.2)] [] q.1) (fun (r : Int32 × gMem) => Q = gMQ below D cy B H0 args s 0 0 (some (vI r.1)) r.2)) z → gGo p l e rX7_landHaul s m args below meth c D cy B H0 5 0 0 Q 5 [(0, vR (some x0)), (1, vR x1), (2, vR x2), (3, vI x3), (4, vI x4)] [] M := by
  intro M x0 x1 x2 x3 x4 z hf hK
  unfold bb_X7_landHaul_5 at hf
  refine g_iload X dX7_landHaul_5 rfl ?_
  refine g_iconst (v := (5 : Int32)) X dX7_landHaul_7 (by decide) ?_
  refine g_icmp_gt (tgt := 72) X dX7_landHaul_8 (by decide) (fun hc => ?_) (fun hc => ?_)
  · have hf := ife_t hc hf
    refine g_aload_n X dX7_landHaul_72 rfl rfl ?_
    refine g_dup X dX7_landHaul_73 rfl ?_
    obtain ⟨a1, ha1, hf⟩ := dr_e hf
    obtain ⟨hT2, hf⟩ := ck_e hf
    refine g_get (ci := 0) (v := vI (mI M a1 8)) 8 X cdX1 i_X7_landHaul_X1 (by decide) k_X7_landHaul_f222 rfl dX7_landHaul_74 ha1 hT2 rfl ?_
    refine g_iload_n X dX7_landHaul_77 rfl rfl ?_
    refine g_iadd X dX7_landHaul_78 ?_
    refine g_putI (ci := 0) 8 X cdX1 i_X7_landHaul_X1 (by decide) k_X7_landHaul_f222 rfl dX7_landHaul_79 ha1 hT2 (Or.inl rfl) rfl rfl rfl ?_
    obtain ⟨M3, hM3, hf⟩ := lw_e hf
    rw [← hM3]
    have hT4 : mT M3 a1 = 1 := by rw [hM3]; exact hT2
    refine g_aload_n X dX7_landHaul_82 rfl rfl ?_
    refine g_dup X dX7_landHaul_83 rfl ?_
    obtain ⟨a5, ha5, hf⟩ := dr_e hf
    obtain ⟨hT6, hf⟩ := ck_e hf
    refine g_get (ci := 2) (v := vI (mI M3 a5 2)) 2 X cdX3 i_X7_landHaul_X3 (by decide) k_X7_landHaul_f225 rfl dX7_landHaul_84 ha5 hT6 rfl ?_
    refine g_iload_n X dX7_landHaul_87 rfl rfl ?_
    refine g_iadd X dX7_landHaul_88 ?_
    refine g_putI (ci := 2) 2 X cdX3 i_X7_landHaul_X3 (by decide) k_X7_landHaul_f225 rfl dX7_landHaul_89 ha5 hT6 (Or.inl rfl) rfl rfl rfl ?_
    obtain ⟨M7, hM7, hf⟩ := lw_e hf
    rw [← hM7]
    have hT8 : mT M7 a1 = 1 := by rw [hM7]; exact hT4
    have hT9 : mT M7 a5 = 3 := by rw [hM7]; exact hT6
    refine g_iload_n X dX7_landHaul_92 rfl rfl ?_
    obtain ⟨w10, hw10, hz10⟩ := oI_e hf
    subst hz10
    have hf := hw10
    cases hf
    refine g_eqQ hK ?_
    exact g_iret X hr dX7_landHaul_93
  · have hf := ife_f hc hf
    refine g_iload X dX7_landHaul_11 rfl ?_
    refine g_aload_n X dX7_landHaul_13 rfl rfl ?_
    obtain ⟨a11, ha11, hf⟩ := dr_e hf
    obtain ⟨hT12, hf⟩ := ck_e hf
    refine g_get (ci := 0) (v := vI (mI M a11 1)) 1 X cdX1 i_X7_landHaul_X1 (by decide) k_X7_landHaul_f119 rfl dX7_landHaul_14 ha11 hT12 rfl ?_
    refine g_icmp_lt (tgt := 66) X dX7_landHaul_17 (by decide) (fun hc => ?_) (fun hc => ?_)
    · have hf := ife_t hc hf
      refine g_sub (lvsub_of _ _ [0, 1, 2, 3, 4] rfl) ?_
      exact t_X7_landHaul_66 X hr _ _ _ _ _ _ _ hf hK
    · have hf := ife_f hc hf
      refine g_iload_n X dX7_landHaul_20 rfl rfl ?_
      refine g_aload_n X dX7_landHaul_21 rfl rfl ?_
      obtain ⟨hT13, hf⟩ := ck_e hf
      refine g_get (ci := 6) (v := vR (mR M x0 13)) 13 X cdX7 i_X7_landHaul_X7 (by decide) k_X7_landHaul_f53 rfl dX7_landHaul_22 rfl hT13 rfl ?_
      refine g_iload X dX7_landHaul_25 rfl ?_
      obtain ⟨a14, ha14, hf⟩ := dr_e hf
      obtain ⟨hT15, hf⟩ := ck_e hf
      obtain ⟨hg16, hf⟩ := ck_e hf
      refine g_iald X dX7_landHaul_27 ha14 hT15 hg16 ?_
      refine g_iadd X dX7_landHaul_28 ?_
      refine g_istore_n (lv' := [(3, vI (x3 + (mI M a14 x4.toNatClampNeg))), (0, vR (some x0)), (1, vR x1), (2, vR x2), (4, vI x4)]) X dX7_landHaul_29 rfl (by decide) rfl ?_
      refine g_aload_n X dX7_landHaul_30 rfl rfl ?_
      refine g_dup X dX7_landHaul_31 rfl ?_
      refine g_get (ci := 0) (v := vI (mI M a11 5)) 5 X cdX1 i_X7_landHaul_X1 (by decide) k_X7_landHaul_f196 rfl dX7_landHaul_32 ha11 hT12 rfl ?_
      refine g_aload_n X dX7_landHaul_35 rfl rfl ?_
      refine g_get (ci := 6) (v := vR (mR M x0 13)) 13 X cdX7 i_X7_landHaul_X7 (by decide) k_X7_landHaul_f53 rfl dX7_landHaul_36 rfl hT13 rfl ?_
      refine g_iload X dX7_landHaul_39 rfl ?_
      obtain ⟨hg17, hf⟩ := ck_e hf
      refine g_iald X dX7_landHaul_41 ha14 hT15 hg17 ?_
      refine g_iload X dX7_landHaul_42 rfl ?_
      refine g_imul X dX7_landHaul_44 ?_
      refine g_iadd X dX7_landHaul_45 ?_
      refine g_putI (ci := 0) 5 X cdX1 i_X7_landHaul_X1 (by decide) k_X7_landHaul_f196 rfl dX7_landHaul_46 ha11 hT12 (Or.inl rfl) rfl rfl rfl ?_
      obtain ⟨M18, hM18, hf⟩ := lw_e hf
      rw [← hM18]
      have hT19 : mT M18 a11 = 1 := by rw [hM18]; exact hT12
      have hT20 : mT M18 x0 = 7 := by rw [hM18]; exact hT13
      have hT21 : mT M18 a14 = 20 := by rw [hM18]; exact hT15
      refine g_aload_n X dX7_landHaul_49 rfl rfl ?_
      obtain ⟨a22, ha22, hf⟩ := dr_e hf
      obtain ⟨hT23, hf⟩ := ck_e hf
      refine g_get (ci := 2) (v := vR (mR M18 a22 3)) 3 X cdX3 i_X7_landHaul_X3 (by decide) k_X7_landHaul_f210 rfl dX7_landHaul_50 ha22 hT23 rfl ?_
      refine g_iload X dX7_landHaul_53 rfl ?_
      refine g_dup2 X dX7_landHaul_55 rfl rfl ?_
      obtain ⟨a24, ha24, hf⟩ := dr_e hf
      obtain ⟨hT25, hf⟩ := ck_e hf
      obtain ⟨hg26, hf⟩ := ck_e hf
      refine g_iald X dX7_landHaul_56 ha24 hT25 hg26 ?_
      refine g_aload_n X dX7_landHaul_57 rfl rfl ?_
      refine g_get (ci := 6) (v := vR (mR M18 x0 13)) 13 X cdX7 i_X7_landHaul_X7 (by decide) k_X7_landHaul_f53 rfl dX7_landHaul_58 rfl hT20 rfl ?_
      refine g_iload X dX7_landHaul_61 rfl ?_
      obtain ⟨a27, ha27, hf⟩ := dr_e hf
      obtain ⟨hT28, hf⟩ := ck_e hf
      obtain ⟨hg29, hf⟩ := ck_e hf
      refine g_iald X dX7_landHaul_63 ha27 hT28 hg29 ?_
      refine g_isub X dX7_landHaul_64 ?_
      obtain ⟨hg30, hf⟩ := ck_e hf
      refine g_iast X dX7_landHaul_65 ha24 hT25 hg30 ?_
      obtain ⟨M31, hM31, hf⟩ := lw_e hf
      rw [← hM31]
      have hT32 : mT M31 a11 = 1 := by rw [hM31]; exact hT19
      have hT33 : mT M31 x0 = 7 := by rw [hM31]; exact hT20
      have hT34 : mT M31 a14 = 20 := by rw [hM31]; exact hT21
      have hT35 : mT M31 a22 = 3 := by rw [hM31]; exact hT23
      have hT36 : mT M31 a24 = 20 := by rw [hM31]; exact hT25
      have hT37 : mT M31 a27 = 20 := by rw [hM31]; exact hT28
      refine g_sub (lvsub_of _ _ [1, 2, 3, 0, 4] rfl) ?_
      exact t_X7_landHaul_66 X hr _ _ _ _ _ _ _ hf hK
set_option maxHeartbeats 4000000 in
set_option maxRecDepth 100000 in
theorem tl_X7_landHaul_5 (X : gX p s m args meth c D cy B (gSt Z B H0) RX7 cX7_landHaul wsX7_landHaul 5) (hr : meth.sig.returnType = (some .int)) {Q : State → Prop} : ∀ (M : gMem) (x0 : Nat) (x1 : Option Nat) (x2 : Option Nat) (x3 : Int32) (x4 : Int32) (z : Int32 × gMem), lp_X7_landHaul_5 M x0 x1 x2 x3 x4 = some z → (fun (r : Int32 × gMem) => Q = gMQ below D cy B H0 args s 0 0 (some (vI r.1)) r.2) z → gGo p l e rX7_landHaul s m args below meth c D cy B H0 5 0 0 Q 5 [(0, vR (some x0)), (1, vR x1), (2, vR x2), (3, vI x3), (4, vI x4)] [] M := by
  intro M x0 x1 x2 x3 x4 z hf hK
  refine lp_ind (P := (fun (q : gMem × Int32 × Int32) (z : Int32 × gMem) => (fun (r : Int32 × gMem) => Q = gMQ below D cy B H0 args s 0 0 (some (vI r.1)) r.2) z → gGo p l e rX7_landHaul s m args below meth c D cy B H0 5 0 0 Q 5 [(0, vR (some x0)), (1, vR x1), (2, vR x2), (3, vI q.2.1), (4, vI q.2.2)] [] q.1)) (fun q z hq => ?_) _ _ hf hK
  intro hK
  obtain ⟨w, hw, hm⟩ := hq
  refine tb_X7_landHaul_5 X hr _ _ _ _ _ _ w hw ?_
  cases w with
  | inl a => exact hm hK
  | inr b => cases hm; exact hK
set_option maxHeartbeats 4000000 in
set_option maxRecDepth 100000 in
theorem t_X7_landHaul_0 (X : gX p s m args meth c D cy B (gSt Z B H0) RX7 cX7_landHaul wsX7_landHaul 5) (hr : meth.sig.returnType = (some .int)) {Q : State → Prop} : ∀ (M : gMem) (x0 : Nat) (x1 : Option Nat) (x2 : Option Nat) (z : Int32 × gMem), b_X7_landHaul_0 M x0 x1 x2 = some z → (fun (r : Int32 × gMem) => Q = gMQ below D cy B H0 args s 0 0 (some (vI r.1)) r.2) z → gGo p l e rX7_landHaul s m args below meth c D cy B H0 5 0 0 Q 0 [(0, vR (some x0)), (1, vR x1), (2, vR x2)] [] M := by
  intro M x0 x1 x2 z hf hK
  unfold b_X7_landHaul_0 at hf
  refine g_iconst (v := (0 : Int32)) X dX7_landHaul_0 (by decide) ?_
  refine g_istore_n (lv' := [(3, vI (0 : Int32)), (0, vR (some x0)), (1, vR x1), (2, vR x2)]) X dX7_landHaul_1 rfl (by decide) rfl ?_
  refine g_iconst (v := (1 : Int32)) X dX7_landHaul_2 (by decide) ?_
  refine g_istore (lv' := [(4, vI (1 : Int32)), (3, vI (0 : Int32)), (0, vR (some x0)), (1, vR x1), (2, vR x2)]) X dX7_landHaul_3 (by decide) rfl ?_
  refine g_sub (lvsub_of _ _ [2, 3, 4, 1, 0] rfl) ?_
  exact tl_X7_landHaul_5 X hr _ _ _ _ _ _ _ hf hK
set_option maxHeartbeats 4000000 in
set_option maxRecDepth 100000 in
theorem m_X7_landHaul (l : Launch) {D : va_G} {cy : Nat → ClassId} {B : Nat} {H0 : Heap} {Z : Nat → Nat} {M M1 : gMem} {x0 : Nat} {x1 : Option Nat} {x2 : Option Nat} {r : Int32} (hf : f_X7_landHaul M x0 x1 x2 = some (r, M1)) : Met l yX7_landHaul wsX7_landHaul rX7_landHaul (va_Pc (Value.ref x0 :: List.map gv [vR x1, vR x2]) (gPre D cy B H0 (gSt Z B H0) M)) (gQ D cy B H0 (some (vI r)) M1) 0 0 (gA B) := by
  refine Met.ofW (cc := cX7_landHaul) (maxL := 5) (ret := (some .int)) (by decide) rfl ?_
  intro p e s m args below meth c s₁ Bd hml hv
  obtain ⟨rfl, hW, hKK, hFs⟩ := hv
  have X : gX p s m _ meth c D cy B (gSt Z B H0) RX7 cX7_landHaul wsX7_landHaul 5 := ⟨Bd.exec, Bd.bytes, atoms_spec (ws := wsX7_landHaul) Bd.pre, findClass_of_methodNamed Bd.named, hml, hKK, by rw [hW.1]; exact hW.2.1, Bd.notSynchronized, hFs⟩
  have hr := Bd.returns
  rcases x1 with _ | x1
  · rcases x2 with _ | x2
    · have hl := lv_entry ([.ref x0, .null, .null]) (n := 5) (Nat.le_of_ble_eq_true rfl)
      show W p l e rX7_landHaul s m _ below meth c s.heap [] 0 0 _ (entryFrame m ([.ref x0, .null, .null] : List Value).toArray 5)
      rw [lg_entry_eq]
      generalize (lg_sl ([.ref x0, .null, .null]) ++ List.replicate (5 - (lg_sl ([.ref x0, .null, .null])).length) Slot.unset).toArray = ls at hl ⊢
      have hl : lv_has ls 5 (List.map gq [(0, vR (some x0)), (1, vR none), (2, vR none)]) := hl
      exact t_X7_landHaul_0 X hr _ _ _ _ _ hf rfl s.heap [] ls hW va_S.rf (lv_has_sub hl (lvsub_of _ _ [0, 1, 2] rfl))
    · have hl := lv_entry ([.ref x0, .null, .ref x2]) (n := 5) (Nat.le_of_ble_eq_true rfl)
      show W p l e rX7_landHaul s m _ below meth c s.heap [] 0 0 _ (entryFrame m ([.ref x0, .null, .ref x2] : List Value).toArray 5)
      rw [lg_entry_eq]
      generalize (lg_sl ([.ref x0, .null, .ref x2]) ++ List.replicate (5 - (lg_sl ([.ref x0, .null, .ref x2])).length) Slot.unset).toArray = ls at hl ⊢
      have hl : lv_has ls 5 (List.map gq [(0, vR (some x0)), (1, vR none), (2, vR (some x2))]) := hl
      exact t_X7_landHaul_0 X hr _ _ _ _ _ hf rfl s.heap [] ls hW va_S.rf (lv_has_sub hl (lvsub_of _ _ [0, 1, 2] rfl))
  · rcases x2 with _ | x2
    · have hl := lv_entry ([.ref x0, .ref x1, .null]) (n := 5) (Nat.le_of_ble_eq_true rfl)
      show W p l e rX7_landHaul s m _ below meth c s.heap [] 0 0 _ (entryFrame m ([.ref x0, .ref x1, .null] : List Value).toArray 5)
      rw [lg_entry_eq]
      generalize (lg_sl ([.ref x0, .ref x1, .null]) ++ List.replicate (5 - (lg_sl ([.ref x0, .ref x1, .null])).length) Slot.unset).toArray = ls at hl ⊢
      have hl : lv_has ls 5 (List.map gq [(0, vR (some x0)), (1, vR (some x1)), (2, vR none)]) := hl
      exact t_X7_landHaul_0 X hr _ _ _ _ _ hf rfl s.heap [] ls hW va_S.rf (lv_has_sub hl (lvsub_of _ _ [0, 1, 2] rfl))
    · have hl := lv_entry ([.ref x0, .ref x1, .ref x2]) (n := 5) (Nat.le_of_ble_eq_true rfl)
      show W p l e rX7_landHaul s m _ below meth c s.heap [] 0 0 _ (entryFrame m ([.ref x0, .ref x1, .ref x2] : List Value).toArray 5)
      rw [lg_entry_eq]
      generalize (lg_sl ([.ref x0, .ref x1, .ref x2]) ++ List.replicate (5 - (lg_sl ([.ref x0, .ref x1, .ref x2])).length) Slot.unset).toArray = ls at hl ⊢
      have hl : lv_has ls 5 (List.map gq [(0, vR (some x0)), (1, vR (some x1)), (2, vR (some x2))]) := hl
      exact t_X7_landHaul_0 X hr _ _ _ _ _ hf rfl s.heap [] ls hW va_S.rf (lv_has_sub hl (lvsub_of _ _ [0, 1, 2] rfl))
/-! ## TideLots$Shore.sail(II)V -/
theorem dX7_sail_0 : decode cX7_sail 0 = .ok (.aload_n 0, 1) := by decide +kernel
theorem dX7_sail_1 : decode cX7_sail 1 = .ok (.getfield 23, 3) := by decide +kernel
theorem dX7_sail_4 : decode cX7_sail 4 = .ok (.iload_n 1, 1) := by decide +kernel
theorem dX7_sail_5 : decode cX7_sail 5 = .ok (.aaload, 1) := by decide +kernel
theorem dX7_sail_6 : decode cX7_sail 6 = .ok (.astore_n 3, 1) := by decide +kernel
theorem dX7_sail_7 : decode cX7_sail 7 = .ok (.aload_n 3, 1) := by decide +kernel
theorem dX7_sail_8 : decode cX7_sail 8 = .ok (.iload_n 2, 1) := by decide +kernel
theorem dX7_sail_9 : decode cX7_sail 9 = .ok (.putfield 193, 3) := by decide +kernel
theorem dX7_sail_12 : decode cX7_sail 12 = .ok (.aload_n 3, 1) := by decide +kernel
theorem dX7_sail_13 : decode cX7_sail 13 = .ok (.iconst 0, 1) := by decide +kernel
theorem dX7_sail_14 : decode cX7_sail 14 = .ok (.putfield 196, 3) := by decide +kernel
theorem dX7_sail_17 : decode cX7_sail 17 = .ok (.iload_n 2, 1) := by decide +kernel
theorem dX7_sail_18 : decode cX7_sail 18 = .ok (.ifCond .lt 49, 3) := by decide +kernel
theorem dX7_sail_21 : decode cX7_sail 21 = .ok (.aload_n 0, 1) := by decide +kernel
theorem dX7_sail_22 : decode cX7_sail 22 = .ok (.getfield 17, 3) := by decide +kernel
theorem dX7_sail_25 : decode cX7_sail 25 = .ok (.iload_n 2, 1) := by decide +kernel
theorem dX7_sail_26 : decode cX7_sail 26 = .ok (.aaload, 1) := by decide +kernel
theorem dX7_sail_27 : decode cX7_sail 27 = .ok (.astore 4, 2) := by decide +kernel
theorem dX7_sail_29 : decode cX7_sail 29 = .ok (.aload 4, 2) := by decide +kernel
theorem dX7_sail_31 : decode cX7_sail 31 = .ok (.dup, 1) := by decide +kernel
theorem dX7_sail_32 : decode cX7_sail 32 = .ok (.getfield 156, 3) := by decide +kernel
theorem dX7_sail_35 : decode cX7_sail 35 = .ok (.iconst 1, 1) := by decide +kernel
theorem dX7_sail_36 : decode cX7_sail 36 = .ok (.iadd, 1) := by decide +kernel
theorem dX7_sail_37 : decode cX7_sail 37 = .ok (.putfield 156, 3) := by decide +kernel
theorem dX7_sail_40 : decode cX7_sail 40 = .ok (.aload_n 0, 1) := by decide +kernel
theorem dX7_sail_41 : decode cX7_sail 41 = .ok (.aload 4, 2) := by decide +kernel
theorem dX7_sail_43 : decode cX7_sail 43 = .ok (.aload_n 3, 1) := by decide +kernel
theorem dX7_sail_44 : decode cX7_sail 44 = .ok (.invokevirtual 199, 3) := by decide +kernel
theorem dX7_sail_47 : decode cX7_sail 47 = .ok (.aload_n 0, 1) := by decide +kernel
theorem dX7_sail_48 : decode cX7_sail 48 = .ok (.aload 4, 2) := by decide +kernel
theorem dX7_sail_50 : decode cX7_sail 50 = .ok (.aload_n 3, 1) := by decide +kernel
theorem dX7_sail_51 : decode cX7_sail 51 = .ok (.invokevirtual 203, 3) := by decide +kernel
theorem dX7_sail_54 : decode cX7_sail 54 = .ok (.istore 5, 2) := by decide +kernel
theorem dX7_sail_56 : decode cX7_sail 56 = .ok (.aload_n 3, 1) := by decide +kernel
theorem dX7_sail_57 : decode cX7_sail 57 = .ok (.getfield 207, 3) := by decide +kernel
theorem dX7_sail_60 : decode cX7_sail 60 = .ok (.iload_n 2, 1) := by decide +kernel
theorem dX7_sail_61 : decode cX7_sail 61 = .ok (.dup2, 1) := by decide +kernel
theorem dX7_sail_62 : decode cX7_sail 62 = .ok (.iaload, 1) := by decide +kernel
theorem dX7_sail_63 : decode cX7_sail 63 = .ok (.iload 5, 2) := by decide +kernel
theorem dX7_sail_65 : decode cX7_sail 65 = .ok (.iadd, 1) := by decide +kernel
theorem dX7_sail_66 : decode cX7_sail 66 = .ok (.iastore, 1) := by decide +kernel
theorem dX7_sail_67 : decode cX7_sail 67 = .ok (.return_, 1) := by decide +kernel
set_option maxRecDepth 20000 in
theorem ggX7_sail_X7_haulFrom : GoodIn wsX7_sail wsX7_haulFrom := goodIn_r _ [11, 12, 13, 14, 15, 16, 17, 18, 19, 20, 21, 22, 23, 24, 25, 26, 27, 28, 52, 53, 54, 55, 56, 57, 58, 59, 60, 61, 62, 35, 36, 37, 38, 39, 40, 41, 42, 43, 44, 45, 46, 47, 48, 49, 50, 51, 63, 64, 65, 66] (by decide +kernel) (by decide +kernel)
set_option maxRecDepth 20000 in
theorem gX7_sail_X7_haulFrom : GoodIn wsX7_sail (wsV RX7 199 RX7 yX7_haulFrom wsX7_haulFrom) := goodIn_app (goodIn_of _ (by decide +kernel)) ggX7_sail_X7_haulFrom
set_option maxRecDepth 20000 in
theorem ggX7_sail_X7_landHaul : GoodIn wsX7_sail wsX7_landHaul := goodIn_r _ [32, 12, 13, 3, 14, 33, 34, 52, 53, 54, 55, 56, 57, 58, 59, 60, 61, 62, 35, 36, 37, 38, 39, 40, 41, 42, 43, 44, 45, 46, 47, 48, 49, 50, 51, 63, 64, 65, 66] (by decide +kernel) (by decide +kernel)
set_option maxRecDepth 20000 in
theorem gX7_sail_X7_landHaul : GoodIn wsX7_sail (wsV RX7 203 RX7 yX7_landHaul wsX7_landHaul) := goodIn_app (goodIn_of _ (by decide +kernel)) ggX7_sail_X7_landHaul
theorem k_X7_sail_f23 : Cond.fieldLink RX7 23 "TideLots$Shore" "fishers" "[LTideLots$Fisher;" ∈ wsX7_sail := by decide +kernel
theorem i_X7_sail_X7 : ∀ w ∈ u_ws RX7 TX7 17, w ∈ wsX7_sail := by decide +kernel
theorem k_X7_sail_f193 : Cond.fieldLink RX7 193 "TideLots$Fisher" "place" "I" ∈ wsX7_sail := by decide +kernel
theorem i_X7_sail_X1 : ∀ w ∈ u_ws RX1 TX1 11, w ∈ wsX7_sail := by decide +kernel
theorem k_X7_sail_f196 : Cond.fieldLink RX7 196 "TideLots$Fisher" "latest" "I" ∈ wsX7_sail := by decide +kernel
theorem k_X7_sail_f17 : Cond.fieldLink RX7 17 "TideLots$Shore" "grounds" "[LTideLots$Ground;" ∈ wsX7_sail := by decide +kernel
theorem k_X7_sail_f156 : Cond.fieldLink RX7 156 "TideLots$Ground" "boats" "I" ∈ wsX7_sail := by decide +kernel
theorem i_X7_sail_X3 : ∀ w ∈ u_ws RX3 TX3 4, w ∈ wsX7_sail := by decide +kernel
theorem k_X7_sail_f207 : Cond.fieldLink RX7 207 "TideLots$Fisher" "took" "[I" ∈ wsX7_sail := by decide +kernel
abbrev rX7_sail : Room := { frames := 3, cells := 0, slots := 0, locals := 63 }
noncomputable def b_X7_sail_67 (M : gMem)  : Option (Unit × gMem) :=
  some ((), M)
noncomputable def b_X7_sail_0 (M : gMem) (x0 : Nat) (x1 : Int32) (x2 : Int32) : Option (Unit × gMem) :=
  ck (mT M x0 = 7) <| dr ((mR M x0 7)) fun a2 => ck (mT M a2 = 24) <| ck (inb x1 (mL M a2)) <| dr ((mR M a2 x1.toNatClampNeg)) fun a5 => ck (mT M a5 = 1) <| lw (wI M a5 6 x2) fun M7 => lw (wI M7 a5 5 ((0 : Int32))) fun M11 => (if x2 < 0 then b_X7_sail_67 M11  else dr ((mR M11 x0 6)) fun a15 => ck (mT M11 a15 = 23) <| ck (inb x2 (mL M11 a15)) <| dr ((mR M11 a15 x2.toNatClampNeg)) fun a18 => ck (mT M11 a18 = 3) <| lw (wI M11 a18 1 (((mI M11 a18 1) + (1 : Int32)))) fun M20 => bd (f_X7_haulFrom M20 x0 ((mR M11 a15 x2.toNatClampNeg)) ((mR M a2 x1.toNatClampNeg))) fun _ M26 => ck (mT M26 x0 = 7) <| bd (f_X7_landHaul M26 x0 ((mR M11 a15 x2.toNatClampNeg)) ((mR M a2 x1.toNatClampNeg))) fun r27 M27 => ck (mT M27 a5 = 1) <| dr ((mR M27 a5 10)) fun a30 => ck (mT M27 a30 = 20) <| ck (inb x2 (mL M27 a30)) <| ck (inb x2 (mL M27 a30)) <| lw (wI M27 a30 x2.toNatClampNeg (((mI M27 a30 x2.toNatClampNeg) + r27))) fun M34 => b_X7_sail_67 M34 )
noncomputable def f_X7_sail (M : gMem) (x0 : Nat) (x1 : Int32) (x2 : Int32) : Option (Unit × gMem) :=
  b_X7_sail_0 M x0 x1 x2
set_option maxHeartbeats 4000000 in
set_option maxRecDepth 100000 in
theorem t_X7_sail_67 (X : gX p s m args meth c D cy B (gSt Z B H0) RX7 cX7_sail wsX7_sail 6) (hr : meth.sig.returnType = none) {Q : State → Prop} : ∀ (M : gMem)  (z : Unit × gMem), b_X7_sail_67 M  = some z → (fun (r : Unit × gMem) => Q = gMQ below D cy B H0 args s 0 0 none r.2) z → gGo p l e rX7_sail s m args below meth c D cy B H0 6 0 0 Q 67 [] [] M := by
  intro M  z hf hK
  unfold b_X7_sail_67 at hf
  cases hf
  refine g_eqQ hK ?_
  exact g_vret X hr dX7_sail_67
set_option maxHeartbeats 4000000 in
set_option maxRecDepth 100000 in
theorem t_X7_sail_0 (X : gX p s m args meth c D cy B (gSt Z B H0) RX7 cX7_sail wsX7_sail 6) (hr : meth.sig.returnType = none) {Q : State → Prop} : ∀ (M : gMem) (x0 : Nat) (x1 : Int32) (x2 : Int32) (z : Unit × gMem), b_X7_sail_0 M x0 x1 x2 = some z → (fun (r : Unit × gMem) => Q = gMQ below D cy B H0 args s 0 0 none r.2) z → gGo p l e rX7_sail s m args below meth c D cy B H0 6 0 0 Q 0 [(0, vR (some x0)), (1, vI x1), (2, vI x2)] [] M := by
  intro M x0 x1 x2 z hf hK
  unfold b_X7_sail_0 at hf
  refine g_aload_n X dX7_sail_0 rfl rfl ?_
  obtain ⟨hT1, hf⟩ := ck_e hf
  refine g_get (ci := 6) (v := vR (mR M x0 7)) 7 X cdX7 i_X7_sail_X7 (by decide) k_X7_sail_f23 rfl dX7_sail_1 rfl hT1 rfl ?_
  refine g_iload_n X dX7_sail_4 rfl rfl ?_
  obtain ⟨a2, ha2, hf⟩ := dr_e hf
  obtain ⟨hT3, hf⟩ := ck_e hf
  obtain ⟨hg4, hf⟩ := ck_e hf
  refine g_aald (t0 := 4) X dX7_sail_5 ha2 hT3 (by decide) rfl hg4 ?_
  refine g_astore_n (lv' := [(3, vR (mR M a2 x1.toNatClampNeg)), (0, vR (some x0)), (1, vI x1), (2, vI x2)]) X dX7_sail_6 rfl (by decide) rfl ?_
  refine g_aload_n X dX7_sail_7 rfl rfl ?_
  refine g_iload_n X dX7_sail_8 rfl rfl ?_
  obtain ⟨a5, ha5, hf⟩ := dr_e hf
  obtain ⟨hT6, hf⟩ := ck_e hf
  refine g_putI (ci := 0) 6 X cdX1 i_X7_sail_X1 (by decide) k_X7_sail_f193 rfl dX7_sail_9 ha5 hT6 (Or.inl rfl) rfl rfl rfl ?_
  obtain ⟨M7, hM7, hf⟩ := lw_e hf
  rw [← hM7]
  have hT8 : mT M7 x0 = 7 := by rw [hM7]; exact hT1
  have hT9 : mT M7 a2 = 24 := by rw [hM7]; exact hT3
  have hT10 : mT M7 a5 = 1 := by rw [hM7]; exact hT6
  refine g_aload_n X dX7_sail_12 rfl rfl ?_
  refine g_iconst (v := (0 : Int32)) X dX7_sail_13 (by decide) ?_
  refine g_putI (ci := 0) 5 X cdX1 i_X7_sail_X1 (by decide) k_X7_sail_f196 rfl dX7_sail_14 ha5 hT10 (Or.inl rfl) rfl rfl rfl ?_
  obtain ⟨M11, hM11, hf⟩ := lw_e hf
  rw [← hM11]
  have hT12 : mT M11 x0 = 7 := by rw [hM11]; exact hT8
  have hT13 : mT M11 a2 = 24 := by rw [hM11]; exact hT9
  have hT14 : mT M11 a5 = 1 := by rw [hM11]; exact hT10
  refine g_iload_n X dX7_sail_17 rfl rfl ?_
  refine g_if_lt (tgt := 67) X dX7_sail_18 (by decide) (fun hc => ?_) (fun hc => ?_)
  · have hf := ife_t hc hf
    refine g_sub (lvsub_of _ _ [] rfl) ?_
    exact t_X7_sail_67 X hr _  _ hf hK
  · have hf := ife_f hc hf
    refine g_aload_n X dX7_sail_21 rfl rfl ?_
    refine g_get (ci := 6) (v := vR (mR M11 x0 6)) 6 X cdX7 i_X7_sail_X7 (by decide) k_X7_sail_f17 rfl dX7_sail_22 rfl hT12 rfl ?_
    refine g_iload_n X dX7_sail_25 rfl rfl ?_
    obtain ⟨a15, ha15, hf⟩ := dr_e hf
    obtain ⟨hT16, hf⟩ := ck_e hf
    obtain ⟨hg17, hf⟩ := ck_e hf
    refine g_aald (t0 := 3) X dX7_sail_26 ha15 hT16 (by decide) rfl hg17 ?_
    refine g_astore (lv' := [(4, vR (mR M11 a15 x2.toNatClampNeg)), (3, vR (mR M a2 x1.toNatClampNeg)), (0, vR (some x0)), (1, vI x1), (2, vI x2)]) X dX7_sail_27 (by decide) rfl ?_
    refine g_aload X dX7_sail_29 rfl ?_
    refine g_dup X dX7_sail_31 rfl ?_
    obtain ⟨a18, ha18, hf⟩ := dr_e hf
    obtain ⟨hT19, hf⟩ := ck_e hf
    refine g_get (ci := 2) (v := vI (mI M11 a18 1)) 1 X cdX3 i_X7_sail_X3 (by decide) k_X7_sail_f156 rfl dX7_sail_32 ha18 hT19 rfl ?_
    refine g_iconst (v := (1 : Int32)) X dX7_sail_35 (by decide) ?_
    refine g_iadd X dX7_sail_36 ?_
    refine g_putI (ci := 2) 1 X cdX3 i_X7_sail_X3 (by decide) k_X7_sail_f156 rfl dX7_sail_37 ha18 hT19 (Or.inl rfl) rfl rfl rfl ?_
    obtain ⟨M20, hM20, hf⟩ := lw_e hf
    rw [← hM20]
    have hT21 : mT M20 x0 = 7 := by rw [hM20]; exact hT12
    have hT22 : mT M20 a2 = 24 := by rw [hM20]; exact hT13
    have hT23 : mT M20 a5 = 1 := by rw [hM20]; exact hT14
    have hT24 : mT M20 a15 = 23 := by rw [hM20]; exact hT16
    have hT25 : mT M20 a18 = 3 := by rw [hM20]; exact hT19
    refine g_aload_n X dX7_sail_40 rfl rfl ?_
    refine g_aload X dX7_sail_41 rfl ?_
    refine g_aload_n X dX7_sail_43 rfl rfl ?_
    obtain ⟨r26, M26, hq26, hf⟩ := bd_e hf
    refine g_callV (ci := 6) (b := x0) (As := [vR (mR M11 a15 x2.toNatClampNeg), vR (mR M a2 x1.toNatClampNeg)]) (st := []) (v := none) (M1 := M26) X (m_X7_haulFrom l hq26) (cwV 2 X.2.2.1 gX7_sail_X7_haulFrom rfl rfl rfl (by decide +kernel) ⟨Nat.le_of_ble_eq_true rfl, Nat.le_of_ble_eq_true rfl⟩) rfl rfl rfl hT21 (by decide) rfl (Nat.le_of_ble_eq_true rfl) dX7_sail_44 ⟨by decide, by decide⟩ ?_
    refine g_aload_n X dX7_sail_47 rfl rfl ?_
    refine g_aload X dX7_sail_48 rfl ?_
    refine g_aload_n X dX7_sail_50 rfl rfl ?_
    obtain ⟨hT28, hf⟩ := ck_e hf
    obtain ⟨r27, M27, hq27, hf⟩ := bd_e hf
    refine g_callV (ci := 6) (b := x0) (As := [vR (mR M11 a15 x2.toNatClampNeg), vR (mR M a2 x1.toNatClampNeg)]) (st := []) (v := some (vI r27)) (M1 := M27) X (m_X7_landHaul l hq27) (cwV 2 X.2.2.1 gX7_sail_X7_landHaul rfl rfl rfl (by decide +kernel) ⟨Nat.le_of_ble_eq_true rfl, Nat.le_of_ble_eq_true rfl⟩) rfl rfl rfl hT28 (by decide) rfl (Nat.le_of_ble_eq_true rfl) dX7_sail_51 ⟨by decide, by decide⟩ ?_
    refine g_istore (lv' := [(5, vI r27), (4, vR (mR M11 a15 x2.toNatClampNeg)), (3, vR (mR M a2 x1.toNatClampNeg)), (0, vR (some x0)), (1, vI x1), (2, vI x2)]) X dX7_sail_54 (by decide) rfl ?_
    refine g_aload_n X dX7_sail_56 rfl rfl ?_
    obtain ⟨hT29, hf⟩ := ck_e hf
    refine g_get (ci := 0) (v := vR (mR M27 a5 10)) 10 X cdX1 i_X7_sail_X1 (by decide) k_X7_sail_f207 rfl dX7_sail_57 ha5 hT29 rfl ?_
    refine g_iload_n X dX7_sail_60 rfl rfl ?_
    refine g_dup2 X dX7_sail_61 rfl rfl ?_
    obtain ⟨a30, ha30, hf⟩ := dr_e hf
    obtain ⟨hT31, hf⟩ := ck_e hf
    obtain ⟨hg32, hf⟩ := ck_e hf
    refine g_iald X dX7_sail_62 ha30 hT31 hg32 ?_
    refine g_iload X dX7_sail_63 rfl ?_
    refine g_iadd X dX7_sail_65 ?_
    obtain ⟨hg33, hf⟩ := ck_e hf
    refine g_iast X dX7_sail_66 ha30 hT31 hg33 ?_
    obtain ⟨M34, hM34, hf⟩ := lw_e hf
    rw [← hM34]
    have hT35 : mT M34 a5 = 1 := by rw [hM34]; exact hT29
    have hT36 : mT M34 a30 = 20 := by rw [hM34]; exact hT31
    refine g_sub (lvsub_of _ _ [] rfl) ?_
    exact t_X7_sail_67 X hr _  _ hf hK
set_option maxHeartbeats 4000000 in
set_option maxRecDepth 100000 in
theorem m_X7_sail (l : Launch) {D : va_G} {cy : Nat → ClassId} {B : Nat} {H0 : Heap} {Z : Nat → Nat} {M M1 : gMem} {x0 : Nat} {x1 : Int32} {x2 : Int32} {r : Unit} (hf : f_X7_sail M x0 x1 x2 = some (r, M1)) : Met l yX7_sail wsX7_sail rX7_sail (va_Pc (Value.ref x0 :: List.map gv [vI x1, vI x2]) (gPre D cy B H0 (gSt Z B H0) M)) (gQ D cy B H0 none M1) 0 0 (gA B) := by
  refine Met.ofW (cc := cX7_sail) (maxL := 6) (ret := none) (by decide) rfl ?_
  intro p e s m args below meth c s₁ Bd hml hv
  obtain ⟨rfl, hW, hKK, hFs⟩ := hv
  have X : gX p s m _ meth c D cy B (gSt Z B H0) RX7 cX7_sail wsX7_sail 6 := ⟨Bd.exec, Bd.bytes, atoms_spec (ws := wsX7_sail) Bd.pre, findClass_of_methodNamed Bd.named, hml, hKK, by rw [hW.1]; exact hW.2.1, Bd.notSynchronized, hFs⟩
  have hr := Bd.returns
  have hl := lv_entry ([.ref x0, .int x1, .int x2]) (n := 6) (Nat.le_of_ble_eq_true rfl)
  show W p l e rX7_sail s m _ below meth c s.heap [] 0 0 _ (entryFrame m ([.ref x0, .int x1, .int x2] : List Value).toArray 6)
  rw [lg_entry_eq]
  generalize (lg_sl ([.ref x0, .int x1, .int x2]) ++ List.replicate (6 - (lg_sl ([.ref x0, .int x1, .int x2])).length) Slot.unset).toArray = ls at hl ⊢
  have hl : lv_has ls 6 (List.map gq [(0, vR (some x0)), (1, vI x1), (2, vI x2)]) := hl
  exact t_X7_sail_0 X hr _ _ _ _ _ hf rfl s.heap [] ls hW va_S.rf (lv_has_sub hl (lvsub_of _ _ [0, 1, 2] rfl))
/-! ## TideLots$Shore.split(LTideLots$Pact;)V -/
theorem dX7_split_0 : decode cX7_split 0 = .ok (.aload_n 1, 1) := by decide +kernel
theorem dX7_split_1 : decode cX7_split 1 = .ok (.invokevirtual 226, 3) := by decide +kernel
theorem dX7_split_4 : decode cX7_split 4 = .ok (.ifCond .eq 11, 3) := by decide +kernel
theorem dX7_split_7 : decode cX7_split 7 = .ok (.aload_n 1, 1) := by decide +kernel
theorem dX7_split_8 : decode cX7_split 8 = .ok (.getfield 230, 3) := by decide +kernel
theorem dX7_split_11 : decode cX7_split 11 = .ok (.iconst 1, 1) := by decide +kernel
theorem dX7_split_12 : decode cX7_split 12 = .ok (.if_icmp .ge 4, 3) := by decide +kernel
theorem dX7_split_15 : decode cX7_split 15 = .ok (.return_, 1) := by decide +kernel
theorem dX7_split_16 : decode cX7_split 16 = .ok (.iconst 0, 1) := by decide +kernel
theorem dX7_split_17 : decode cX7_split 17 = .ok (.istore_n 2, 1) := by decide +kernel
theorem dX7_split_18 : decode cX7_split 18 = .ok (.iconst 0, 1) := by decide +kernel
theorem dX7_split_19 : decode cX7_split 19 = .ok (.istore_n 3, 1) := by decide +kernel
theorem dX7_split_20 : decode cX7_split 20 = .ok (.iconst 0, 1) := by decide +kernel
theorem dX7_split_21 : decode cX7_split 21 = .ok (.istore 4, 2) := by decide +kernel
theorem dX7_split_23 : decode cX7_split 23 = .ok (.iload 4, 2) := by decide +kernel
theorem dX7_split_25 : decode cX7_split 25 = .ok (.aload_n 1, 1) := by decide +kernel
theorem dX7_split_26 : decode cX7_split 26 = .ok (.getfield 230, 3) := by decide +kernel
theorem dX7_split_29 : decode cX7_split 29 = .ok (.if_icmp .ge 73, 3) := by decide +kernel
theorem dX7_split_32 : decode cX7_split 32 = .ok (.aload_n 0, 1) := by decide +kernel
theorem dX7_split_33 : decode cX7_split 33 = .ok (.getfield 23, 3) := by decide +kernel
theorem dX7_split_36 : decode cX7_split 36 = .ok (.aload_n 1, 1) := by decide +kernel
theorem dX7_split_37 : decode cX7_split 37 = .ok (.getfield 233, 3) := by decide +kernel
theorem dX7_split_40 : decode cX7_split 40 = .ok (.iload 4, 2) := by decide +kernel
theorem dX7_split_42 : decode cX7_split 42 = .ok (.iaload, 1) := by decide +kernel
theorem dX7_split_43 : decode cX7_split 43 = .ok (.aaload, 1) := by decide +kernel
theorem dX7_split_44 : decode cX7_split 44 = .ok (.astore 5, 2) := by decide +kernel
theorem dX7_split_46 : decode cX7_split 46 = .ok (.aload 5, 2) := by decide +kernel
theorem dX7_split_48 : decode cX7_split 48 = .ok (.getfield 125, 3) := by decide +kernel
theorem dX7_split_51 : decode cX7_split 51 = .ok (.ifCond .eq 13, 3) := by decide +kernel
theorem dX7_split_54 : decode cX7_split 54 = .ok (.aload 5, 2) := by decide +kernel
theorem dX7_split_56 : decode cX7_split 56 = .ok (.getfield 196, 3) := by decide +kernel
theorem dX7_split_59 : decode cX7_split 59 = .ok (.iconst 2, 1) := by decide +kernel
theorem dX7_split_60 : decode cX7_split 60 = .ok (.idiv, 1) := by decide +kernel
theorem dX7_split_61 : decode cX7_split 61 = .ok (.goto 8, 3) := by decide +kernel
theorem dX7_split_64 : decode cX7_split 64 = .ok (.aload 5, 2) := by decide +kernel
theorem dX7_split_66 : decode cX7_split 66 = .ok (.getfield 196, 3) := by decide +kernel
theorem dX7_split_69 : decode cX7_split 69 = .ok (.istore 6, 2) := by decide +kernel
theorem dX7_split_71 : decode cX7_split 71 = .ok (.aload 5, 2) := by decide +kernel
theorem dX7_split_73 : decode cX7_split 73 = .ok (.dup, 1) := by decide +kernel
theorem dX7_split_74 : decode cX7_split 74 = .ok (.getfield 196, 3) := by decide +kernel
theorem dX7_split_77 : decode cX7_split 77 = .ok (.iload 6, 2) := by decide +kernel
theorem dX7_split_79 : decode cX7_split 79 = .ok (.isub, 1) := by decide +kernel
theorem dX7_split_80 : decode cX7_split 80 = .ok (.putfield 196, 3) := by decide +kernel
theorem dX7_split_83 : decode cX7_split 83 = .ok (.iload_n 2, 1) := by decide +kernel
theorem dX7_split_84 : decode cX7_split 84 = .ok (.iload 6, 2) := by decide +kernel
theorem dX7_split_86 : decode cX7_split 86 = .ok (.iadd, 1) := by decide +kernel
theorem dX7_split_87 : decode cX7_split 87 = .ok (.istore_n 2, 1) := by decide +kernel
theorem dX7_split_88 : decode cX7_split 88 = .ok (.iload_n 3, 1) := by decide +kernel
theorem dX7_split_89 : decode cX7_split 89 = .ok (.aload 5, 2) := by decide +kernel
theorem dX7_split_91 : decode cX7_split 91 = .ok (.getfield 196, 3) := by decide +kernel
theorem dX7_split_94 : decode cX7_split 94 = .ok (.iadd, 1) := by decide +kernel
theorem dX7_split_95 : decode cX7_split 95 = .ok (.istore_n 3, 1) := by decide +kernel
theorem dX7_split_96 : decode cX7_split 96 = .ok (.iinc 4 1, 3) := by decide +kernel
theorem dX7_split_99 : decode cX7_split 99 = .ok (.goto (-76), 3) := by decide +kernel
theorem dX7_split_102 : decode cX7_split 102 = .ok (.iload_n 2, 1) := by decide +kernel
theorem dX7_split_103 : decode cX7_split 103 = .ok (.aload_n 1, 1) := by decide +kernel
theorem dX7_split_104 : decode cX7_split 104 = .ok (.getfield 230, 3) := by decide +kernel
theorem dX7_split_107 : decode cX7_split 107 = .ok (.idiv, 1) := by decide +kernel
theorem dX7_split_108 : decode cX7_split 108 = .ok (.istore 4, 2) := by decide +kernel
theorem dX7_split_110 : decode cX7_split 110 = .ok (.iconst 0, 1) := by decide +kernel
theorem dX7_split_111 : decode cX7_split 111 = .ok (.istore 5, 2) := by decide +kernel
theorem dX7_split_113 : decode cX7_split 113 = .ok (.iload 5, 2) := by decide +kernel
theorem dX7_split_115 : decode cX7_split 115 = .ok (.aload_n 1, 1) := by decide +kernel
theorem dX7_split_116 : decode cX7_split 116 = .ok (.getfield 230, 3) := by decide +kernel
theorem dX7_split_119 : decode cX7_split 119 = .ok (.if_icmp .ge 31, 3) := by decide +kernel
theorem dX7_split_122 : decode cX7_split 122 = .ok (.aload_n 0, 1) := by decide +kernel
theorem dX7_split_123 : decode cX7_split 123 = .ok (.getfield 23, 3) := by decide +kernel
theorem dX7_split_126 : decode cX7_split 126 = .ok (.aload_n 1, 1) := by decide +kernel
theorem dX7_split_127 : decode cX7_split 127 = .ok (.getfield 233, 3) := by decide +kernel
theorem dX7_split_130 : decode cX7_split 130 = .ok (.iload 5, 2) := by decide +kernel
theorem dX7_split_132 : decode cX7_split 132 = .ok (.iaload, 1) := by decide +kernel
theorem dX7_split_133 : decode cX7_split 133 = .ok (.aaload, 1) := by decide +kernel
theorem dX7_split_134 : decode cX7_split 134 = .ok (.dup, 1) := by decide +kernel
theorem dX7_split_135 : decode cX7_split 135 = .ok (.getfield 196, 3) := by decide +kernel
theorem dX7_split_138 : decode cX7_split 138 = .ok (.iload 4, 2) := by decide +kernel
theorem dX7_split_140 : decode cX7_split 140 = .ok (.iadd, 1) := by decide +kernel
theorem dX7_split_141 : decode cX7_split 141 = .ok (.putfield 196, 3) := by decide +kernel
theorem dX7_split_144 : decode cX7_split 144 = .ok (.iinc 5 1, 3) := by decide +kernel
theorem dX7_split_147 : decode cX7_split 147 = .ok (.goto (-34), 3) := by decide +kernel
theorem dX7_split_150 : decode cX7_split 150 = .ok (.aload_n 0, 1) := by decide +kernel
theorem dX7_split_151 : decode cX7_split 151 = .ok (.getfield 23, 3) := by decide +kernel
theorem dX7_split_154 : decode cX7_split 154 = .ok (.aload_n 1, 1) := by decide +kernel
theorem dX7_split_155 : decode cX7_split 155 = .ok (.getfield 233, 3) := by decide +kernel
theorem dX7_split_158 : decode cX7_split 158 = .ok (.iconst 0, 1) := by decide +kernel
theorem dX7_split_159 : decode cX7_split 159 = .ok (.iaload, 1) := by decide +kernel
theorem dX7_split_160 : decode cX7_split 160 = .ok (.aaload, 1) := by decide +kernel
theorem dX7_split_161 : decode cX7_split 161 = .ok (.dup, 1) := by decide +kernel
theorem dX7_split_162 : decode cX7_split 162 = .ok (.getfield 196, 3) := by decide +kernel
theorem dX7_split_165 : decode cX7_split 165 = .ok (.iload_n 2, 1) := by decide +kernel
theorem dX7_split_166 : decode cX7_split 166 = .ok (.iload 4, 2) := by decide +kernel
theorem dX7_split_168 : decode cX7_split 168 = .ok (.aload_n 1, 1) := by decide +kernel
theorem dX7_split_169 : decode cX7_split 169 = .ok (.getfield 230, 3) := by decide +kernel
theorem dX7_split_172 : decode cX7_split 172 = .ok (.imul, 1) := by decide +kernel
theorem dX7_split_173 : decode cX7_split 173 = .ok (.isub, 1) := by decide +kernel
theorem dX7_split_174 : decode cX7_split 174 = .ok (.iadd, 1) := by decide +kernel
theorem dX7_split_175 : decode cX7_split 175 = .ok (.putfield 196, 3) := by decide +kernel
theorem dX7_split_178 : decode cX7_split 178 = .ok (.aload_n 1, 1) := by decide +kernel
theorem dX7_split_179 : decode cX7_split 179 = .ok (.dup, 1) := by decide +kernel
theorem dX7_split_180 : decode cX7_split 180 = .ok (.getfield 235, 3) := by decide +kernel
theorem dX7_split_183 : decode cX7_split 183 = .ok (.iload_n 2, 1) := by decide +kernel
theorem dX7_split_184 : decode cX7_split 184 = .ok (.iadd, 1) := by decide +kernel
theorem dX7_split_185 : decode cX7_split 185 = .ok (.putfield 235, 3) := by decide +kernel
theorem dX7_split_188 : decode cX7_split 188 = .ok (.aload_n 1, 1) := by decide +kernel
theorem dX7_split_189 : decode cX7_split 189 = .ok (.dup, 1) := by decide +kernel
theorem dX7_split_190 : decode cX7_split 190 = .ok (.getfield 238, 3) := by decide +kernel
theorem dX7_split_193 : decode cX7_split 193 = .ok (.iload_n 3, 1) := by decide +kernel
theorem dX7_split_194 : decode cX7_split 194 = .ok (.iadd, 1) := by decide +kernel
theorem dX7_split_195 : decode cX7_split 195 = .ok (.putfield 238, 3) := by decide +kernel
theorem dX7_split_198 : decode cX7_split 198 = .ok (.aload_n 1, 1) := by decide +kernel
theorem dX7_split_199 : decode cX7_split 199 = .ok (.dup, 1) := by decide +kernel
theorem dX7_split_200 : decode cX7_split 200 = .ok (.getfield 241, 3) := by decide +kernel
theorem dX7_split_203 : decode cX7_split 203 = .ok (.iload_n 3, 1) := by decide +kernel
theorem dX7_split_204 : decode cX7_split 204 = .ok (.ifCond .le 7, 3) := by decide +kernel
theorem dX7_split_207 : decode cX7_split 207 = .ok (.iconst 1, 1) := by decide +kernel
theorem dX7_split_208 : decode cX7_split 208 = .ok (.goto 4, 3) := by decide +kernel
theorem dX7_split_211 : decode cX7_split 211 = .ok (.iconst 0, 1) := by decide +kernel
theorem dX7_split_212 : decode cX7_split 212 = .ok (.iadd, 1) := by decide +kernel
theorem dX7_split_213 : decode cX7_split 213 = .ok (.putfield 241, 3) := by decide +kernel
theorem dX7_split_216 : decode cX7_split 216 = .ok (.return_, 1) := by decide +kernel
set_option maxRecDepth 20000 in
theorem ggX7_split_X5_splits : GoodIn wsX7_split wsX5_splits := goodIn_r _ [13, 14, 15, 16, 17, 18, 19, 20, 21, 22] (by decide +kernel) (by decide +kernel)
set_option maxRecDepth 20000 in
theorem gX7_split_X5_splits : GoodIn wsX7_split (wsV RX7 226 RX5 yX5_splits wsX5_splits) := goodIn_app (goodIn_of _ (by decide +kernel)) ggX7_split_X5_splits
theorem k_X7_split_f241 : Cond.fieldLink RX7 241 "TideLots$Pact" "hidingTides" "I" ∈ wsX7_split := by decide +kernel
theorem i_X7_split_X5 : ∀ w ∈ u_ws RX5 TX5 8, w ∈ wsX7_split := by decide +kernel
theorem k_X7_split_f230 : Cond.fieldLink RX7 230 "TideLots$Pact" "size" "I" ∈ wsX7_split := by decide +kernel
theorem k_X7_split_f23 : Cond.fieldLink RX7 23 "TideLots$Shore" "fishers" "[LTideLots$Fisher;" ∈ wsX7_split := by decide +kernel
theorem i_X7_split_X7 : ∀ w ∈ u_ws RX7 TX7 17, w ∈ wsX7_split := by decide +kernel
theorem k_X7_split_f233 : Cond.fieldLink RX7 233 "TideLots$Pact" "fishers" "[I" ∈ wsX7_split := by decide +kernel
theorem k_X7_split_f196 : Cond.fieldLink RX7 196 "TideLots$Fisher" "latest" "I" ∈ wsX7_split := by decide +kernel
theorem i_X7_split_X1 : ∀ w ∈ u_ws RX1 TX1 11, w ∈ wsX7_split := by decide +kernel
theorem k_X7_split_f235 : Cond.fieldLink RX7 235 "TideLots$Pact" "shown" "I" ∈ wsX7_split := by decide +kernel
theorem k_X7_split_f238 : Cond.fieldLink RX7 238 "TideLots$Pact" "hidden" "I" ∈ wsX7_split := by decide +kernel
theorem k_X7_split_f125 : Cond.fieldLink RX7 125 "TideLots$Fisher" "isCheat" "Z" ∈ wsX7_split := by decide +kernel
abbrev rX7_split : Room := { frames := 1, cells := 0, slots := 0, locals := 20 }
noncomputable def b_X7_split_212 (M : gMem) (s0 : Option Nat) (s1 : Int32) (s2 : Int32) : Option (Unit × gMem) :=
  dr s0 fun a1 => ck (mT M a1 = 5) <| lw (wI M a1 7 ((s1 + s2))) fun M3 => some ((), M3)
noncomputable def bb_X7_split_113 (M : gMem) (x0 : Nat) (x1 : Option Nat) (x2 : Int32) (x3 : Int32) (x4 : Int32) (x5 : Int32) : Option ((gMem × Int32) ⊕ (Unit × gMem)) :=
  dr x1 fun a5 => ck (mT M a5 = 5) <| (if (mI M a5 3) ≤ x5 then ck (mT M x0 = 7) <| dr ((mR M a5 4)) fun a8 => ck (mT M a8 = 20) <| ck (inb (0 : Int32) (mL M a8)) <| dr ((mR M x0 7)) fun a11 => ck (mT M a11 = 24) <| ck (inb (mI M a8 ((0 : Int32)).toNatClampNeg) (mL M a11)) <| dr ((mR M a11 ((mI M a8 ((0 : Int32)).toNatClampNeg)).toNatClampNeg)) fun a14 => ck (mT M a14 = 1) <| lw (wI M a14 5 (((mI M a14 5) + (x2 - (x4 * (mI M a5 3)))))) fun M16 => lw (wI M16 a5 5 (((mI M16 a5 5) + x2))) fun M22 => lw (wI M22 a5 6 (((mI M22 a5 6) + x3))) fun M28 => (if x3 ≤ 0 then oI (b_X7_split_212 M28 x1 ((mI M28 a5 7)) ((0 : Int32))) else oI (b_X7_split_212 M28 x1 ((mI M28 a5 7)) ((1 : Int32)))) else ck (mT M x0 = 7) <| dr ((mR M a5 4)) fun a37 => ck (mT M a37 = 20) <| ck (inb x5 (mL M a37)) <| dr ((mR M x0 7)) fun a40 => ck (mT M a40 = 24) <| ck (inb (mI M a37 x5.toNatClampNeg) (mL M a40)) <| dr ((mR M a40 ((mI M a37 x5.toNatClampNeg)).toNatClampNeg)) fun a43 => ck (mT M a43 = 1) <| lw (wI M a43 5 (((mI M a43 5) + x4))) fun M45 => some (.inl (M45, (x5 + (1 : Int32)))))
noncomputable def lp_X7_split_113 (M : gMem) (x0 : Nat) (x1 : Option Nat) (x2 : Int32) (x3 : Int32) (x4 : Int32) (x5 : Int32) : Option (Unit × gMem) :=
  lp (fun (q : gMem × Int32) => bb_X7_split_113 q.1 x0 x1 x2 x3 x4 q.2) (M, x5)
noncomputable def b_X7_split_69 (M : gMem) (x0 : Nat) (x1 : Option Nat) (x2 : Int32) (x3 : Int32) (x4 : Int32) (x5 : Option Nat) (s0 : Int32) : Option ((gMem × Int32 × Int32 × Int32) ⊕ (Unit × gMem)) :=
  dr x5 fun a51 => ck (mT M a51 = 1) <| lw (wI M a51 5 (((mI M a51 5) - s0))) fun M53 => some (.inl (M53, (x2 + s0), (x3 + (mI M53 a51 5)), (x4 + (1 : Int32))))
noncomputable def bb_X7_split_23 (M : gMem) (x0 : Nat) (x1 : Option Nat) (x2 : Int32) (x3 : Int32) (x4 : Int32) : Option ((gMem × Int32 × Int32 × Int32) ⊕ (Unit × gMem)) :=
  dr x1 fun a55 => ck (mT M a55 = 5) <| (if (mI M a55 3) ≤ x4 then ck (¬ (mI M a55 3) = 0) <| oI (lp_X7_split_113 M x0 x1 x2 x3 ((x2 / (mI M a55 3))) ((0 : Int32))) else ck (mT M x0 = 7) <| dr ((mR M a55 4)) fun a60 => ck (mT M a60 = 20) <| ck (inb x4 (mL M a60)) <| dr ((mR M x0 7)) fun a63 => ck (mT M a63 = 24) <| ck (inb (mI M a60 x4.toNatClampNeg) (mL M a63)) <| dr ((mR M a63 ((mI M a60 x4.toNatClampNeg)).toNatClampNeg)) fun a66 => ck (mT M a66 = 1) <| (if (mI M a66 9) = 0 then b_X7_split_69 M x0 x1 x2 x3 x4 ((mR M a63 ((mI M a60 x4.toNatClampNeg)).toNatClampNeg)) ((mI M a66 5)) else b_X7_split_69 M x0 x1 x2 x3 x4 ((mR M a63 ((mI M a60 x4.toNatClampNeg)).toNatClampNeg)) (((mI M a66 5) / (2 : Int32)))))
noncomputable def lp_X7_split_23 (M : gMem) (x0 : Nat) (x1 : Option Nat) (x2 : Int32) (x3 : Int32) (x4 : Int32) : Option (Unit × gMem) :=
  lp (fun (q : gMem × Int32 × Int32 × Int32) => bb_X7_split_23 q.1 x0 x1 q.2.1 q.2.2.1 q.2.2.2) (M, x2, x3, x4)
noncomputable def b_X7_split_15 (M : gMem)  : Option (Unit × gMem) :=
  some ((), M)
noncomputable def b_X7_split_0 (M : gMem) (x0 : Nat) (x1 : Option Nat) : Option (Unit × gMem) :=
  dr x1 fun a69 => ck (mT M a69 = 5) <| bd (f_X5_splits M a69) fun r68 M68 => (if r68 = 0 then b_X7_split_15 M68  else ck (mT M68 a69 = 5) <| (if (1 : Int32) ≤ (mI M68 a69 3) then lp_X7_split_23 M68 x0 x1 ((0 : Int32)) ((0 : Int32)) ((0 : Int32)) else b_X7_split_15 M68 ))
noncomputable def f_X7_split (M : gMem) (x0 : Nat) (x1 : Option Nat) : Option (Unit × gMem) :=
  b_X7_split_0 M x0 x1
set_option maxHeartbeats 4000000 in
set_option maxRecDepth 100000 in
theorem t_X7_split_212 (X : gX p s m args meth c D cy B (gSt Z B H0) RX7 cX7_split wsX7_split 7) (hr : meth.sig.returnType = none) {Q : State → Prop} : ∀ (M : gMem) (s0 : Option Nat) (s1 : Int32) (s2 : Int32) (z : Unit × gMem), b_X7_split_212 M s0 s1 s2 = some z → (fun (r : Unit × gMem) => Q = gMQ below D cy B H0 args s 0 0 none r.2) z → gGo p l e rX7_split s m args below meth c D cy B H0 7 0 0 Q 212 [] [vI s2, vI s1, vR s0] M := by
  intro M s0 s1 s2 z hf hK
  unfold b_X7_split_212 at hf
  refine g_iadd X dX7_split_212 ?_
  obtain ⟨a1, ha1, hf⟩ := dr_e hf
  obtain ⟨hT2, hf⟩ := ck_e hf
  refine g_putI (ci := 4) 7 X cdX5 i_X7_split_X5 (by decide) k_X7_split_f241 rfl dX7_split_213 ha1 hT2 (Or.inl rfl) rfl rfl rfl ?_
  obtain ⟨M3, hM3, hf⟩ := lw_e hf
  rw [← hM3]
  have hT4 : mT M3 a1 = 5 := by rw [hM3]; exact hT2
  cases hf
  refine g_eqQ hK ?_
  exact g_vret X hr dX7_split_216
set_option maxHeartbeats 4000000 in
set_option maxRecDepth 100000 in
theorem tb_X7_split_113 (X : gX p s m args meth c D cy B (gSt Z B H0) RX7 cX7_split wsX7_split 7) (hr : meth.sig.returnType = none) {Q : State → Prop} : ∀ (M : gMem) (x0 : Nat) (x1 : Option Nat) (x2 : Int32) (x3 : Int32) (x4 : Int32) (x5 : Int32) (z : (gMem × Int32) ⊕ (Unit × gMem)), bb_X7_split_113 M x0 x1 x2 x3 x4 x5 = some z → (Sum.elim (fun (q : gMem × Int32) => gGo p l e rX7_split s m args below meth c D cy B H0 7 0 0 Q 113 [(0, vR (some x0)), (1, vR x1), (2, vI x2), (3, vI x3), (4, vI x4), (5, vI q.2)] [] q.1) (fun (r : Unit × gMem) => Q = gMQ below D cy B H0 args s 0 0 none r.2)) z → gGo p l e rX7_split s m args below meth c D cy B H0 7 0 0 Q 113 [(0, vR (some x0)), (1, vR x1), (2, vI x2), (3, vI x3), (4, vI x4), (5, vI x5)] [] M := by
  intro M x0 x1 x2 x3 x4 x5 z hf hK
  unfold bb_X7_split_113 at hf
  refine g_iload X dX7_split_113 rfl ?_
  refine g_aload_n X dX7_split_115 rfl rfl ?_
  obtain ⟨a5, ha5, hf⟩ := dr_e hf
  obtain ⟨hT6, hf⟩ := ck_e hf
  refine g_get (ci := 4) (v := vI (mI M a5 3)) 3 X cdX5 i_X7_split_X5 (by decide) k_X7_split_f230 rfl dX7_split_116 ha5 hT6 rfl ?_
  refine g_icmp_ge (tgt := 150) X dX7_split_119 (by decide) (fun hc => ?_) (fun hc => ?_)
  · have hf := ife_t hc hf
    refine g_aload_n X dX7_split_150 rfl rfl ?_
    obtain ⟨hT7, hf⟩ := ck_e hf
    refine g_get (ci := 6) (v := vR (mR M x0 7)) 7 X cdX7 i_X7_split_X7 (by decide) k_X7_split_f23 rfl dX7_split_151 rfl hT7 rfl ?_
    refine g_aload_n X dX7_split_154 rfl rfl ?_
    refine g_get (ci := 4) (v := vR (mR M a5 4)) 4 X cdX5 i_X7_split_X5 (by decide) k_X7_split_f233 rfl dX7_split_155 ha5 hT6 rfl ?_
    refine g_iconst (v := (0 : Int32)) X dX7_split_158 (by decide) ?_
    obtain ⟨a8, ha8, hf⟩ := dr_e hf
    obtain ⟨hT9, hf⟩ := ck_e hf
    obtain ⟨hg10, hf⟩ := ck_e hf
    refine g_iald X dX7_split_159 ha8 hT9 hg10 ?_
    obtain ⟨a11, ha11, hf⟩ := dr_e hf
    obtain ⟨hT12, hf⟩ := ck_e hf
    obtain ⟨hg13, hf⟩ := ck_e hf
    refine g_aald (t0 := 4) X dX7_split_160 ha11 hT12 (by decide) rfl hg13 ?_
    refine g_dup X dX7_split_161 rfl ?_
    obtain ⟨a14, ha14, hf⟩ := dr_e hf
    obtain ⟨hT15, hf⟩ := ck_e hf
    refine g_get (ci := 0) (v := vI (mI M a14 5)) 5 X cdX1 i_X7_split_X1 (by decide) k_X7_split_f196 rfl dX7_split_162 ha14 hT15 rfl ?_
    refine g_iload_n X dX7_split_165 rfl rfl ?_
    refine g_iload X dX7_split_166 rfl ?_
    refine g_aload_n X dX7_split_168 rfl rfl ?_
    refine g_get (ci := 4) (v := vI (mI M a5 3)) 3 X cdX5 i_X7_split_X5 (by decide) k_X7_split_f230 rfl dX7_split_169 ha5 hT6 rfl ?_
    refine g_imul X dX7_split_172 ?_
    refine g_isub X dX7_split_173 ?_
    refine g_iadd X dX7_split_174 ?_
    refine g_putI (ci := 0) 5 X cdX1 i_X7_split_X1 (by decide) k_X7_split_f196 rfl dX7_split_175 ha14 hT15 (Or.inl rfl) rfl rfl rfl ?_
    obtain ⟨M16, hM16, hf⟩ := lw_e hf
    rw [← hM16]
    have hT17 : mT M16 a5 = 5 := by rw [hM16]; exact hT6
    have hT18 : mT M16 x0 = 7 := by rw [hM16]; exact hT7
    have hT19 : mT M16 a8 = 20 := by rw [hM16]; exact hT9
    have hT20 : mT M16 a11 = 24 := by rw [hM16]; exact hT12
    have hT21 : mT M16 a14 = 1 := by rw [hM16]; exact hT15
    refine g_aload_n X dX7_split_178 rfl rfl ?_
    refine g_dup X dX7_split_179 rfl ?_
    refine g_get (ci := 4) (v := vI (mI M16 a5 5)) 5 X cdX5 i_X7_split_X5 (by decide) k_X7_split_f235 rfl dX7_split_180 ha5 hT17 rfl ?_
    refine g_iload_n X dX7_split_183 rfl rfl ?_
    refine g_iadd X dX7_split_184 ?_
    refine g_putI (ci := 4) 5 X cdX5 i_X7_split_X5 (by decide) k_X7_split_f235 rfl dX7_split_185 ha5 hT17 (Or.inl rfl) rfl rfl rfl ?_
    obtain ⟨M22, hM22, hf⟩ := lw_e hf
    rw [← hM22]
    have hT23 : mT M22 a5 = 5 := by rw [hM22]; exact hT17
    have hT24 : mT M22 x0 = 7 := by rw [hM22]; exact hT18
    have hT25 : mT M22 a8 = 20 := by rw [hM22]; exact hT19
    have hT26 : mT M22 a11 = 24 := by rw [hM22]; exact hT20
    have hT27 : mT M22 a14 = 1 := by rw [hM22]; exact hT21
    refine g_aload_n X dX7_split_188 rfl rfl ?_
    refine g_dup X dX7_split_189 rfl ?_
    refine g_get (ci := 4) (v := vI (mI M22 a5 6)) 6 X cdX5 i_X7_split_X5 (by decide) k_X7_split_f238 rfl dX7_split_190 ha5 hT23 rfl ?_
    refine g_iload_n X dX7_split_193 rfl rfl ?_
    refine g_iadd X dX7_split_194 ?_
    refine g_putI (ci := 4) 6 X cdX5 i_X7_split_X5 (by decide) k_X7_split_f238 rfl dX7_split_195 ha5 hT23 (Or.inl rfl) rfl rfl rfl ?_
    obtain ⟨M28, hM28, hf⟩ := lw_e hf
    rw [← hM28]
    have hT29 : mT M28 a5 = 5 := by rw [hM28]; exact hT23
    have hT30 : mT M28 x0 = 7 := by rw [hM28]; exact hT24
    have hT31 : mT M28 a8 = 20 := by rw [hM28]; exact hT25
    have hT32 : mT M28 a11 = 24 := by rw [hM28]; exact hT26
    have hT33 : mT M28 a14 = 1 := by rw [hM28]; exact hT27
    refine g_aload_n X dX7_split_198 rfl rfl ?_
    refine g_dup X dX7_split_199 rfl ?_
    refine g_get (ci := 4) (v := vI (mI M28 a5 7)) 7 X cdX5 i_X7_split_X5 (by decide) k_X7_split_f241 rfl dX7_split_200 ha5 hT29 rfl ?_
    refine g_iload_n X dX7_split_203 rfl rfl ?_
    refine g_if_le (tgt := 211) X dX7_split_204 (by decide) (fun hc => ?_) (fun hc => ?_)
    · have hf := ife_t hc hf
      refine g_iconst (v := (0 : Int32)) X dX7_split_211 (by decide) ?_
      obtain ⟨w34, hw34, hz34⟩ := oI_e hf
      subst hz34
      have hf := hw34
      refine g_sub (lvsub_of _ _ [] rfl) ?_
      exact t_X7_split_212 X hr _ _ _ _ _ hf hK
    · have hf := ife_f hc hf
      refine g_iconst (v := (1 : Int32)) X dX7_split_207 (by decide) ?_
      refine g_goto (tgt := 212) X dX7_split_208 (by decide) ?_
      obtain ⟨w35, hw35, hz35⟩ := oI_e hf
      subst hz35
      have hf := hw35
      refine g_sub (lvsub_of _ _ [] rfl) ?_
      exact t_X7_split_212 X hr _ _ _ _ _ hf hK
  · have hf := ife_f hc hf
    refine g_aload_n X dX7_split_122 rfl rfl ?_
    obtain ⟨hT36, hf⟩ := ck_e hf
    refine g_get (ci := 6) (v := vR (mR M x0 7)) 7 X cdX7 i_X7_split_X7 (by decide) k_X7_split_f23 rfl dX7_split_123 rfl hT36 rfl ?_
    refine g_aload_n X dX7_split_126 rfl rfl ?_
    refine g_get (ci := 4) (v := vR (mR M a5 4)) 4 X cdX5 i_X7_split_X5 (by decide) k_X7_split_f233 rfl dX7_split_127 ha5 hT6 rfl ?_
    refine g_iload X dX7_split_130 rfl ?_
    obtain ⟨a37, ha37, hf⟩ := dr_e hf
    obtain ⟨hT38, hf⟩ := ck_e hf
    obtain ⟨hg39, hf⟩ := ck_e hf
    refine g_iald X dX7_split_132 ha37 hT38 hg39 ?_
    obtain ⟨a40, ha40, hf⟩ := dr_e hf
    obtain ⟨hT41, hf⟩ := ck_e hf
    obtain ⟨hg42, hf⟩ := ck_e hf
    refine g_aald (t0 := 4) X dX7_split_133 ha40 hT41 (by decide) rfl hg42 ?_
    refine g_dup X dX7_split_134 rfl ?_
    obtain ⟨a43, ha43, hf⟩ := dr_e hf
    obtain ⟨hT44, hf⟩ := ck_e hf
    refine g_get (ci := 0) (v := vI (mI M a43 5)) 5 X cdX1 i_X7_split_X1 (by decide) k_X7_split_f196 rfl dX7_split_135 ha43 hT44 rfl ?_
    refine g_iload X dX7_split_138 rfl ?_
    refine g_iadd X dX7_split_140 ?_
    refine g_putI (ci := 0) 5 X cdX1 i_X7_split_X1 (by decide) k_X7_split_f196 rfl dX7_split_141 ha43 hT44 (Or.inl rfl) rfl rfl rfl ?_
    obtain ⟨M45, hM45, hf⟩ := lw_e hf
    rw [← hM45]
    have hT46 : mT M45 a5 = 5 := by rw [hM45]; exact hT6
    have hT47 : mT M45 x0 = 7 := by rw [hM45]; exact hT36
    have hT48 : mT M45 a37 = 20 := by rw [hM45]; exact hT38
    have hT49 : mT M45 a40 = 24 := by rw [hM45]; exact hT41
    have hT50 : mT M45 a43 = 1 := by rw [hM45]; exact hT44
    refine g_iinc (v := (1 : Int32)) (lv' := [(5, vI (x5 + (1 : Int32))), (0, vR (some x0)), (1, vR x1), (2, vI x2), (3, vI x3), (4, vI x4)]) X dX7_split_144 rfl (by decide) (by decide) rfl ?_
    refine g_goto (tgt := 113) X dX7_split_147 (by decide) ?_
    cases hf
    refine g_sub (lvsub_of _ _ [1, 2, 3, 4, 5, 0] rfl) ?_
    exact hK
set_option maxHeartbeats 4000000 in
set_option maxRecDepth 100000 in
theorem tl_X7_split_113 (X : gX p s m args meth c D cy B (gSt Z B H0) RX7 cX7_split wsX7_split 7) (hr : meth.sig.returnType = none) {Q : State → Prop} : ∀ (M : gMem) (x0 : Nat) (x1 : Option Nat) (x2 : Int32) (x3 : Int32) (x4 : Int32) (x5 : Int32) (z : Unit × gMem), lp_X7_split_113 M x0 x1 x2 x3 x4 x5 = some z → (fun (r : Unit × gMem) => Q = gMQ below D cy B H0 args s 0 0 none r.2) z → gGo p l e rX7_split s m args below meth c D cy B H0 7 0 0 Q 113 [(0, vR (some x0)), (1, vR x1), (2, vI x2), (3, vI x3), (4, vI x4), (5, vI x5)] [] M := by
  intro M x0 x1 x2 x3 x4 x5 z hf hK
  refine lp_ind (P := (fun (q : gMem × Int32) (z : Unit × gMem) => (fun (r : Unit × gMem) => Q = gMQ below D cy B H0 args s 0 0 none r.2) z → gGo p l e rX7_split s m args below meth c D cy B H0 7 0 0 Q 113 [(0, vR (some x0)), (1, vR x1), (2, vI x2), (3, vI x3), (4, vI x4), (5, vI q.2)] [] q.1)) (fun q z hq => ?_) _ _ hf hK
  intro hK
  obtain ⟨w, hw, hm⟩ := hq
  refine tb_X7_split_113 X hr _ _ _ _ _ _ _ w hw ?_
  cases w with
  | inl a => exact hm hK
  | inr b => cases hm; exact hK
set_option maxHeartbeats 4000000 in
set_option maxRecDepth 100000 in
theorem t_X7_split_69 (X : gX p s m args meth c D cy B (gSt Z B H0) RX7 cX7_split wsX7_split 7) (hr : meth.sig.returnType = none) {Q : State → Prop} : ∀ (M : gMem) (x0 : Nat) (x1 : Option Nat) (x2 : Int32) (x3 : Int32) (x4 : Int32) (x5 : Option Nat) (s0 : Int32) (z : (gMem × Int32 × Int32 × Int32) ⊕ (Unit × gMem)), b_X7_split_69 M x0 x1 x2 x3 x4 x5 s0 = some z → (Sum.elim (fun (q : gMem × Int32 × Int32 × Int32) => gGo p l e rX7_split s m args below meth c D cy B H0 7 0 0 Q 23 [(0, vR (some x0)), (1, vR x1), (2, vI q.2.1), (3, vI q.2.2.1), (4, vI q.2.2.2)] [] q.1) (fun (r : Unit × gMem) => Q = gMQ below D cy B H0 args s 0 0 none r.2)) z → gGo p l e rX7_split s m args below meth c D cy B H0 7 0 0 Q 69 [(0, vR (some x0)), (1, vR x1), (2, vI x2), (3, vI x3), (4, vI x4), (5, vR x5)] [vI s0] M := by
  intro M x0 x1 x2 x3 x4 x5 s0 z hf hK
  unfold b_X7_split_69 at hf
  refine g_istore (lv' := [(6, vI s0), (0, vR (some x0)), (1, vR x1), (2, vI x2), (3, vI x3), (4, vI x4), (5, vR x5)]) X dX7_split_69 (by decide) rfl ?_
  refine g_aload X dX7_split_71 rfl ?_
  refine g_dup X dX7_split_73 rfl ?_
  obtain ⟨a51, ha51, hf⟩ := dr_e hf
  obtain ⟨hT52, hf⟩ := ck_e hf
  refine g_get (ci := 0) (v := vI (mI M a51 5)) 5 X cdX1 i_X7_split_X1 (by decide) k_X7_split_f196 rfl dX7_split_74 ha51 hT52 rfl ?_
  refine g_iload X dX7_split_77 rfl ?_
  refine g_isub X dX7_split_79 ?_
  refine g_putI (ci := 0) 5 X cdX1 i_X7_split_X1 (by decide) k_X7_split_f196 rfl dX7_split_80 ha51 hT52 (Or.inl rfl) rfl rfl rfl ?_
  obtain ⟨M53, hM53, hf⟩ := lw_e hf
  rw [← hM53]
  have hT54 : mT M53 a51 = 1 := by rw [hM53]; exact hT52
  refine g_iload_n X dX7_split_83 rfl rfl ?_
  refine g_iload X dX7_split_84 rfl ?_
  refine g_iadd X dX7_split_86 ?_
  refine g_istore_n (lv' := [(2, vI (x2 + s0)), (6, vI s0), (0, vR (some x0)), (1, vR x1), (3, vI x3), (4, vI x4), (5, vR x5)]) X dX7_split_87 rfl (by decide) rfl ?_
  refine g_iload_n X dX7_split_88 rfl rfl ?_
  refine g_aload X dX7_split_89 rfl ?_
  refine g_get (ci := 0) (v := vI (mI M53 a51 5)) 5 X cdX1 i_X7_split_X1 (by decide) k_X7_split_f196 rfl dX7_split_91 ha51 hT54 rfl ?_
  refine g_iadd X dX7_split_94 ?_
  refine g_istore_n (lv' := [(3, vI (x3 + (mI M53 a51 5))), (2, vI (x2 + s0)), (6, vI s0), (0, vR (some x0)), (1, vR x1), (4, vI x4), (5, vR x5)]) X dX7_split_95 rfl (by decide) rfl ?_
  refine g_iinc (v := (1 : Int32)) (lv' := [(4, vI (x4 + (1 : Int32))), (3, vI (x3 + (mI M53 a51 5))), (2, vI (x2 + s0)), (6, vI s0), (0, vR (some x0)), (1, vR x1), (5, vR x5)]) X dX7_split_96 rfl (by decide) (by decide) rfl ?_
  refine g_goto (tgt := 23) X dX7_split_99 (by decide) ?_
  cases hf
  refine g_sub (lvsub_of _ _ [4, 5, 2, 1, 0] rfl) ?_
  exact hK
set_option maxHeartbeats 4000000 in
set_option maxRecDepth 100000 in
theorem tb_X7_split_23 (X : gX p s m args meth c D cy B (gSt Z B H0) RX7 cX7_split wsX7_split 7) (hr : meth.sig.returnType = none) {Q : State → Prop} : ∀ (M : gMem) (x0 : Nat) (x1 : Option Nat) (x2 : Int32) (x3 : Int32) (x4 : Int32) (z : (gMem × Int32 × Int32 × Int32) ⊕ (Unit × gMem)), bb_X7_split_23 M x0 x1 x2 x3 x4 = some z → (Sum.elim (fun (q : gMem × Int32 × Int32 × Int32) => gGo p l e rX7_split s m args below meth c D cy B H0 7 0 0 Q 23 [(0, vR (some x0)), (1, vR x1), (2, vI q.2.1), (3, vI q.2.2.1), (4, vI q.2.2.2)] [] q.1) (fun (r : Unit × gMem) => Q = gMQ below D cy B H0 args s 0 0 none r.2)) z → gGo p l e rX7_split s m args below meth c D cy B H0 7 0 0 Q 23 [(0, vR (some x0)), (1, vR x1), (2, vI x2), (3, vI x3), (4, vI x4)] [] M := by
  intro M x0 x1 x2 x3 x4 z hf hK
  unfold bb_X7_split_23 at hf
  refine g_iload X dX7_split_23 rfl ?_
  refine g_aload_n X dX7_split_25 rfl rfl ?_
  obtain ⟨a55, ha55, hf⟩ := dr_e hf
  obtain ⟨hT56, hf⟩ := ck_e hf
  refine g_get (ci := 4) (v := vI (mI M a55 3)) 3 X cdX5 i_X7_split_X5 (by decide) k_X7_split_f230 rfl dX7_split_26 ha55 hT56 rfl ?_
  refine g_icmp_ge (tgt := 102) X dX7_split_29 (by decide) (fun hc => ?_) (fun hc => ?_)
  · have hf := ife_t hc hf
    refine g_iload_n X dX7_split_102 rfl rfl ?_
    refine g_aload_n X dX7_split_103 rfl rfl ?_
    refine g_get (ci := 4) (v := vI (mI M a55 3)) 3 X cdX5 i_X7_split_X5 (by decide) k_X7_split_f230 rfl dX7_split_104 ha55 hT56 rfl ?_
    obtain ⟨hg57, hf⟩ := ck_e hf
    refine g_idiv X dX7_split_107 hg57 ?_
    refine g_istore (lv' := [(4, vI (x2 / (mI M a55 3))), (0, vR (some x0)), (1, vR x1), (2, vI x2), (3, vI x3)]) X dX7_split_108 (by decide) rfl ?_
    refine g_iconst (v := (0 : Int32)) X dX7_split_110 (by decide) ?_
    refine g_istore (lv' := [(5, vI (0 : Int32)), (4, vI (x2 / (mI M a55 3))), (0, vR (some x0)), (1, vR x1), (2, vI x2), (3, vI x3)]) X dX7_split_111 (by decide) rfl ?_
    obtain ⟨w58, hw58, hz58⟩ := oI_e hf
    subst hz58
    have hf := hw58
    refine g_sub (lvsub_of _ _ [2, 3, 4, 5, 1, 0] rfl) ?_
    exact tl_X7_split_113 X hr _ _ _ _ _ _ _ _ hf hK
  · have hf := ife_f hc hf
    refine g_aload_n X dX7_split_32 rfl rfl ?_
    obtain ⟨hT59, hf⟩ := ck_e hf
    refine g_get (ci := 6) (v := vR (mR M x0 7)) 7 X cdX7 i_X7_split_X7 (by decide) k_X7_split_f23 rfl dX7_split_33 rfl hT59 rfl ?_
    refine g_aload_n X dX7_split_36 rfl rfl ?_
    refine g_get (ci := 4) (v := vR (mR M a55 4)) 4 X cdX5 i_X7_split_X5 (by decide) k_X7_split_f233 rfl dX7_split_37 ha55 hT56 rfl ?_
    refine g_iload X dX7_split_40 rfl ?_
    obtain ⟨a60, ha60, hf⟩ := dr_e hf
    obtain ⟨hT61, hf⟩ := ck_e hf
    obtain ⟨hg62, hf⟩ := ck_e hf
    refine g_iald X dX7_split_42 ha60 hT61 hg62 ?_
    obtain ⟨a63, ha63, hf⟩ := dr_e hf
    obtain ⟨hT64, hf⟩ := ck_e hf
    obtain ⟨hg65, hf⟩ := ck_e hf
    refine g_aald (t0 := 4) X dX7_split_43 ha63 hT64 (by decide) rfl hg65 ?_
    refine g_astore (lv' := [(5, vR (mR M a63 ((mI M a60 x4.toNatClampNeg)).toNatClampNeg)), (0, vR (some x0)), (1, vR x1), (2, vI x2), (3, vI x3), (4, vI x4)]) X dX7_split_44 (by decide) rfl ?_
    refine g_aload X dX7_split_46 rfl ?_
    obtain ⟨a66, ha66, hf⟩ := dr_e hf
    obtain ⟨hT67, hf⟩ := ck_e hf
    refine g_get (ci := 0) (v := vI (mI M a66 9)) 9 X cdX1 i_X7_split_X1 (by decide) k_X7_split_f125 rfl dX7_split_48 ha66 hT67 rfl ?_
    refine g_if_eq (tgt := 64) X dX7_split_51 (by decide) (fun hc => ?_) (fun hc => ?_)
    · have hf := ife_t hc hf
      refine g_aload X dX7_split_64 rfl ?_
      refine g_get (ci := 0) (v := vI (mI M a66 5)) 5 X cdX1 i_X7_split_X1 (by decide) k_X7_split_f196 rfl dX7_split_66 ha66 hT67 rfl ?_
      refine g_sub (lvsub_of _ _ [1, 2, 3, 4, 5, 0] rfl) ?_
      exact t_X7_split_69 X hr _ _ _ _ _ _ _ _ _ hf hK
    · have hf := ife_f hc hf
      refine g_aload X dX7_split_54 rfl ?_
      refine g_get (ci := 0) (v := vI (mI M a66 5)) 5 X cdX1 i_X7_split_X1 (by decide) k_X7_split_f196 rfl dX7_split_56 ha66 hT67 rfl ?_
      refine g_iconst (v := (2 : Int32)) X dX7_split_59 (by decide) ?_
      refine g_idiv X dX7_split_60 (by decide) ?_
      refine g_goto (tgt := 69) X dX7_split_61 (by decide) ?_
      refine g_sub (lvsub_of _ _ [1, 2, 3, 4, 5, 0] rfl) ?_
      exact t_X7_split_69 X hr _ _ _ _ _ _ _ _ _ hf hK
set_option maxHeartbeats 4000000 in
set_option maxRecDepth 100000 in
theorem tl_X7_split_23 (X : gX p s m args meth c D cy B (gSt Z B H0) RX7 cX7_split wsX7_split 7) (hr : meth.sig.returnType = none) {Q : State → Prop} : ∀ (M : gMem) (x0 : Nat) (x1 : Option Nat) (x2 : Int32) (x3 : Int32) (x4 : Int32) (z : Unit × gMem), lp_X7_split_23 M x0 x1 x2 x3 x4 = some z → (fun (r : Unit × gMem) => Q = gMQ below D cy B H0 args s 0 0 none r.2) z → gGo p l e rX7_split s m args below meth c D cy B H0 7 0 0 Q 23 [(0, vR (some x0)), (1, vR x1), (2, vI x2), (3, vI x3), (4, vI x4)] [] M := by
  intro M x0 x1 x2 x3 x4 z hf hK
  refine lp_ind (P := (fun (q : gMem × Int32 × Int32 × Int32) (z : Unit × gMem) => (fun (r : Unit × gMem) => Q = gMQ below D cy B H0 args s 0 0 none r.2) z → gGo p l e rX7_split s m args below meth c D cy B H0 7 0 0 Q 23 [(0, vR (some x0)), (1, vR x1), (2, vI q.2.1), (3, vI q.2.2.1), (4, vI q.2.2.2)] [] q.1)) (fun q z hq => ?_) _ _ hf hK
  intro hK
  obtain ⟨w, hw, hm⟩ := hq
  refine tb_X7_split_23 X hr _ _ _ _ _ _ w hw ?_
  cases w with
  | inl a => exact hm hK
  | inr b => cases hm; exact hK
set_option maxHeartbeats 4000000 in
set_option maxRecDepth 100000 in
theorem t_X7_split_15 (X : gX p s m args meth c D cy B (gSt Z B H0) RX7 cX7_split wsX7_split 7) (hr : meth.sig.returnType = none) {Q : State → Prop} : ∀ (M : gMem)  (z : Unit × gMem), b_X7_split_15 M  = some z → (fun (r : Unit × gMem) => Q = gMQ below D cy B H0 args s 0 0 none r.2) z → gGo p l e rX7_split s m args below meth c D cy B H0 7 0 0 Q 15 [] [] M := by
  intro M  z hf hK
  unfold b_X7_split_15 at hf
  cases hf
  refine g_eqQ hK ?_
  exact g_vret X hr dX7_split_15
set_option maxHeartbeats 4000000 in
set_option maxRecDepth 100000 in
theorem t_X7_split_0 (X : gX p s m args meth c D cy B (gSt Z B H0) RX7 cX7_split wsX7_split 7) (hr : meth.sig.returnType = none) {Q : State → Prop} : ∀ (M : gMem) (x0 : Nat) (x1 : Option Nat) (z : Unit × gMem), b_X7_split_0 M x0 x1 = some z → (fun (r : Unit × gMem) => Q = gMQ below D cy B H0 args s 0 0 none r.2) z → gGo p l e rX7_split s m args below meth c D cy B H0 7 0 0 Q 0 [(0, vR (some x0)), (1, vR x1)] [] M := by
  intro M x0 x1 z hf hK
  unfold b_X7_split_0 at hf
  refine g_aload_n X dX7_split_0 rfl rfl ?_
  obtain ⟨a69, ha69, hf⟩ := dr_e hf
  obtain ⟨hT70, hf⟩ := ck_e hf
  obtain ⟨r68, M68, hq68, hf⟩ := bd_e hf
  refine g_callV (ci := 4) (b := a69) (As := []) (st := []) (v := some (vI r68)) (M1 := M68) X (m_X5_splits l hq68) (cwV 0 X.2.2.1 gX7_split_X5_splits rfl rfl rfl (by decide +kernel) ⟨Nat.le_of_ble_eq_true rfl, Nat.le_of_ble_eq_true rfl⟩) rfl rfl ha69 hT70 (by decide) rfl (Nat.le_of_ble_eq_true rfl) dX7_split_1 ⟨by decide, by decide⟩ ?_
  refine g_if_eq (tgt := 15) X dX7_split_4 (by decide) (fun hc => ?_) (fun hc => ?_)
  · have hf := ife_t hc hf
    refine g_sub (lvsub_of _ _ [] rfl) ?_
    exact t_X7_split_15 X hr _  _ hf hK
  · have hf := ife_f hc hf
    refine g_aload_n X dX7_split_7 rfl rfl ?_
    obtain ⟨hT71, hf⟩ := ck_e hf
    refine g_get (ci := 4) (v := vI (mI M68 a69 3)) 3 X cdX5 i_X7_split_X5 (by decide) k_X7_split_f230 rfl dX7_split_8 ha69 hT71 rfl ?_
    refine g_iconst (v := (1 : Int32)) X dX7_split_11 (by decide) ?_
    refine g_icmp_ge (tgt := 16) X dX7_split_12 (by decide) (fun hc => ?_) (fun hc => ?_)
    · have hf := ife_t hc hf
      refine g_iconst (v := (0 : Int32)) X dX7_split_16 (by decide) ?_
      refine g_istore_n (lv' := [(2, vI (0 : Int32)), (0, vR (some x0)), (1, vR x1)]) X dX7_split_17 rfl (by decide) rfl ?_
      refine g_iconst (v := (0 : Int32)) X dX7_split_18 (by decide) ?_
      refine g_istore_n (lv' := [(3, vI (0 : Int32)), (2, vI (0 : Int32)), (0, vR (some x0)), (1, vR x1)]) X dX7_split_19 rfl (by decide) rfl ?_
      refine g_iconst (v := (0 : Int32)) X dX7_split_20 (by decide) ?_
      refine g_istore (lv' := [(4, vI (0 : Int32)), (3, vI (0 : Int32)), (2, vI (0 : Int32)), (0, vR (some x0)), (1, vR x1)]) X dX7_split_21 (by decide) rfl ?_
      refine g_sub (lvsub_of _ _ [3, 4, 2, 1, 0] rfl) ?_
      exact tl_X7_split_23 X hr _ _ _ _ _ _ _ hf hK
    · have hf := ife_f hc hf
      refine g_sub (lvsub_of _ _ [] rfl) ?_
      exact t_X7_split_15 X hr _  _ hf hK
set_option maxHeartbeats 4000000 in
set_option maxRecDepth 100000 in
theorem m_X7_split (l : Launch) {D : va_G} {cy : Nat → ClassId} {B : Nat} {H0 : Heap} {Z : Nat → Nat} {M M1 : gMem} {x0 : Nat} {x1 : Option Nat} {r : Unit} (hf : f_X7_split M x0 x1 = some (r, M1)) : Met l yX7_split wsX7_split rX7_split (va_Pc (Value.ref x0 :: List.map gv [vR x1]) (gPre D cy B H0 (gSt Z B H0) M)) (gQ D cy B H0 none M1) 0 0 (gA B) := by
  refine Met.ofW (cc := cX7_split) (maxL := 7) (ret := none) (by decide) rfl ?_
  intro p e s m args below meth c s₁ Bd hml hv
  obtain ⟨rfl, hW, hKK, hFs⟩ := hv
  have X : gX p s m _ meth c D cy B (gSt Z B H0) RX7 cX7_split wsX7_split 7 := ⟨Bd.exec, Bd.bytes, atoms_spec (ws := wsX7_split) Bd.pre, findClass_of_methodNamed Bd.named, hml, hKK, by rw [hW.1]; exact hW.2.1, Bd.notSynchronized, hFs⟩
  have hr := Bd.returns
  rcases x1 with _ | x1
  · have hl := lv_entry ([.ref x0, .null]) (n := 7) (Nat.le_of_ble_eq_true rfl)
    show W p l e rX7_split s m _ below meth c s.heap [] 0 0 _ (entryFrame m ([.ref x0, .null] : List Value).toArray 7)
    rw [lg_entry_eq]
    generalize (lg_sl ([.ref x0, .null]) ++ List.replicate (7 - (lg_sl ([.ref x0, .null])).length) Slot.unset).toArray = ls at hl ⊢
    have hl : lv_has ls 7 (List.map gq [(0, vR (some x0)), (1, vR none)]) := hl
    exact t_X7_split_0 X hr _ _ _ _ hf rfl s.heap [] ls hW va_S.rf (lv_has_sub hl (lvsub_of _ _ [0, 1] rfl))
  · have hl := lv_entry ([.ref x0, .ref x1]) (n := 7) (Nat.le_of_ble_eq_true rfl)
    show W p l e rX7_split s m _ below meth c s.heap [] 0 0 _ (entryFrame m ([.ref x0, .ref x1] : List Value).toArray 7)
    rw [lg_entry_eq]
    generalize (lg_sl ([.ref x0, .ref x1]) ++ List.replicate (7 - (lg_sl ([.ref x0, .ref x1])).length) Slot.unset).toArray = ls at hl ⊢
    have hl : lv_has ls 7 (List.map gq [(0, vR (some x0)), (1, vR (some x1))]) := hl
    exact t_X7_split_0 X hr _ _ _ _ hf rfl s.heap [] ls hW va_S.rf (lv_has_sub hl (lvsub_of _ _ [0, 1] rfl))
/-! ## TideLots$Shore.storeCatches()I -/
theorem dX7_storeCatches_0 : decode cX7_storeCatches 0 = .ok (.iconst 0, 1) := by decide +kernel
theorem dX7_storeCatches_1 : decode cX7_storeCatches 1 = .ok (.istore_n 1, 1) := by decide +kernel
theorem dX7_storeCatches_2 : decode cX7_storeCatches 2 = .ok (.iconst 0, 1) := by decide +kernel
theorem dX7_storeCatches_3 : decode cX7_storeCatches 3 = .ok (.istore_n 2, 1) := by decide +kernel
theorem dX7_storeCatches_4 : decode cX7_storeCatches 4 = .ok (.iload_n 2, 1) := by decide +kernel
theorem dX7_storeCatches_5 : decode cX7_storeCatches 5 = .ok (.aload_n 0, 1) := by decide +kernel
theorem dX7_storeCatches_6 : decode cX7_storeCatches 6 = .ok (.getfield 75, 3) := by decide +kernel
theorem dX7_storeCatches_9 : decode cX7_storeCatches 9 = .ok (.if_icmp .ge 44, 3) := by decide +kernel
theorem dX7_storeCatches_12 : decode cX7_storeCatches 12 = .ok (.aload_n 0, 1) := by decide +kernel
theorem dX7_storeCatches_13 : decode cX7_storeCatches 13 = .ok (.getfield 23, 3) := by decide +kernel
theorem dX7_storeCatches_16 : decode cX7_storeCatches 16 = .ok (.iload_n 2, 1) := by decide +kernel
theorem dX7_storeCatches_17 : decode cX7_storeCatches 17 = .ok (.aaload, 1) := by decide +kernel
theorem dX7_storeCatches_18 : decode cX7_storeCatches 18 = .ok (.dup, 1) := by decide +kernel
theorem dX7_storeCatches_19 : decode cX7_storeCatches 19 = .ok (.getfield 116, 3) := by decide +kernel
theorem dX7_storeCatches_22 : decode cX7_storeCatches 22 = .ok (.aload_n 0, 1) := by decide +kernel
theorem dX7_storeCatches_23 : decode cX7_storeCatches 23 = .ok (.getfield 23, 3) := by decide +kernel
theorem dX7_storeCatches_26 : decode cX7_storeCatches 26 = .ok (.iload_n 2, 1) := by decide +kernel
theorem dX7_storeCatches_27 : decode cX7_storeCatches 27 = .ok (.aaload, 1) := by decide +kernel
theorem dX7_storeCatches_28 : decode cX7_storeCatches 28 = .ok (.getfield 196, 3) := by decide +kernel
theorem dX7_storeCatches_31 : decode cX7_storeCatches 31 = .ok (.iadd, 1) := by decide +kernel
theorem dX7_storeCatches_32 : decode cX7_storeCatches 32 = .ok (.putfield 116, 3) := by decide +kernel
theorem dX7_storeCatches_35 : decode cX7_storeCatches 35 = .ok (.iload_n 1, 1) := by decide +kernel
theorem dX7_storeCatches_36 : decode cX7_storeCatches 36 = .ok (.aload_n 0, 1) := by decide +kernel
theorem dX7_storeCatches_37 : decode cX7_storeCatches 37 = .ok (.getfield 23, 3) := by decide +kernel
theorem dX7_storeCatches_40 : decode cX7_storeCatches 40 = .ok (.iload_n 2, 1) := by decide +kernel
theorem dX7_storeCatches_41 : decode cX7_storeCatches 41 = .ok (.aaload, 1) := by decide +kernel
theorem dX7_storeCatches_42 : decode cX7_storeCatches 42 = .ok (.getfield 196, 3) := by decide +kernel
theorem dX7_storeCatches_45 : decode cX7_storeCatches 45 = .ok (.iadd, 1) := by decide +kernel
theorem dX7_storeCatches_46 : decode cX7_storeCatches 46 = .ok (.istore_n 1, 1) := by decide +kernel
theorem dX7_storeCatches_47 : decode cX7_storeCatches 47 = .ok (.iinc 2 1, 3) := by decide +kernel
theorem dX7_storeCatches_50 : decode cX7_storeCatches 50 = .ok (.goto (-46), 3) := by decide +kernel
theorem dX7_storeCatches_53 : decode cX7_storeCatches 53 = .ok (.iload_n 1, 1) := by decide +kernel
theorem dX7_storeCatches_54 : decode cX7_storeCatches 54 = .ok (.ireturn, 1) := by decide +kernel
theorem k_X7_storeCatches_f75 : Cond.fieldLink RX7 75 "TideLots$Shore" "fisherCount" "I" ∈ wsX7_storeCatches := by decide +kernel
theorem i_X7_storeCatches_X7 : ∀ w ∈ u_ws RX7 TX7 17, w ∈ wsX7_storeCatches := by decide +kernel
theorem k_X7_storeCatches_f23 : Cond.fieldLink RX7 23 "TideLots$Shore" "fishers" "[LTideLots$Fisher;" ∈ wsX7_storeCatches := by decide +kernel
theorem k_X7_storeCatches_f116 : Cond.fieldLink RX7 116 "TideLots$Fisher" "store" "I" ∈ wsX7_storeCatches := by decide +kernel
theorem i_X7_storeCatches_X1 : ∀ w ∈ u_ws RX1 TX1 11, w ∈ wsX7_storeCatches := by decide +kernel
theorem k_X7_storeCatches_f196 : Cond.fieldLink RX7 196 "TideLots$Fisher" "latest" "I" ∈ wsX7_storeCatches := by decide +kernel
abbrev rX7_storeCatches : Room := { frames := 0, cells := 0, slots := 0, locals := 0 }
noncomputable def bb_X7_storeCatches_4 (M : gMem) (x0 : Nat) (x1 : Int32) (x2 : Int32) : Option ((gMem × Int32 × Int32) ⊕ (Int32 × gMem)) :=
  ck (mT M x0 = 7) <| (if (mI M x0 3) ≤ x2 then oI (some (x1, M)) else dr ((mR M x0 7)) fun a3 => ck (mT M a3 = 24) <| ck (inb x2 (mL M a3)) <| dr ((mR M a3 x2.toNatClampNeg)) fun a6 => ck (mT M a6 = 1) <| ck (inb x2 (mL M a3)) <| lw (wI M a6 4 (((mI M a6 4) + (mI M a6 5)))) fun M9 => dr ((mR M9 x0 7)) fun a13 => ck (mT M9 a13 = 24) <| ck (inb x2 (mL M9 a13)) <| dr ((mR M9 a13 x2.toNatClampNeg)) fun a16 => ck (mT M9 a16 = 1) <| some (.inl (M9, (x1 + (mI M9 a16 5)), (x2 + (1 : Int32)))))
noncomputable def lp_X7_storeCatches_4 (M : gMem) (x0 : Nat) (x1 : Int32) (x2 : Int32) : Option (Int32 × gMem) :=
  lp (fun (q : gMem × Int32 × Int32) => bb_X7_storeCatches_4 q.1 x0 q.2.1 q.2.2) (M, x1, x2)
noncomputable def b_X7_storeCatches_0 (M : gMem) (x0 : Nat) : Option (Int32 × gMem) :=
  lp_X7_storeCatches_4 M x0 ((0 : Int32)) ((0 : Int32))
noncomputable def f_X7_storeCatches (M : gMem) (x0 : Nat) : Option (Int32 × gMem) :=
  b_X7_storeCatches_0 M x0
set_option maxHeartbeats 4000000 in
set_option maxRecDepth 100000 in
theorem tb_X7_storeCatches_4 (X : gX p s m args meth c D cy B (gSt Z B H0) RX7 cX7_storeCatches wsX7_storeCatches 3) (hr : meth.sig.returnType = (some .int)) {Q : State → Prop} : ∀ (M : gMem) (x0 : Nat) (x1 : Int32) (x2 : Int32) (z : (gMem × Int32 × Int32) ⊕ (Int32 × gMem)), bb_X7_storeCatches_4 M x0 x1 x2 = some z → (Sum.elim (fun (q : gMem × Int32 × Int32) => gGo p l e rX7_storeCatches s m args below meth c D cy B H0 3 0 0 Q 4 [(0, vR (some x0)), (1, vI q.2.1), (2, vI q.2.2)] [] q.1) (fun (r : Int32 × gMem) => Q = gMQ below D cy B H0 args s 0 0 (some (vI r.1)) r.2)) z → gGo p l e rX7_storeCatches s m args below meth c D cy B H0 3 0 0 Q 4 [(0, vR (some x0)), (1, vI x1), (2, vI x2)] [] M := by
  intro M x0 x1 x2 z hf hK
  unfold bb_X7_storeCatches_4 at hf
  refine g_iload_n X dX7_storeCatches_4 rfl rfl ?_
  refine g_aload_n X dX7_storeCatches_5 rfl rfl ?_
  obtain ⟨hT1, hf⟩ := ck_e hf
  refine g_get (ci := 6) (v := vI (mI M x0 3)) 3 X cdX7 i_X7_storeCatches_X7 (by decide) k_X7_storeCatches_f75 rfl dX7_storeCatches_6 rfl hT1 rfl ?_
  refine g_icmp_ge (tgt := 53) X dX7_storeCatches_9 (by decide) (fun hc => ?_) (fun hc => ?_)
  · have hf := ife_t hc hf
    refine g_iload_n X dX7_storeCatches_53 rfl rfl ?_
    obtain ⟨w2, hw2, hz2⟩ := oI_e hf
    subst hz2
    have hf := hw2
    cases hf
    refine g_eqQ hK ?_
    exact g_iret X hr dX7_storeCatches_54
  · have hf := ife_f hc hf
    refine g_aload_n X dX7_storeCatches_12 rfl rfl ?_
    refine g_get (ci := 6) (v := vR (mR M x0 7)) 7 X cdX7 i_X7_storeCatches_X7 (by decide) k_X7_storeCatches_f23 rfl dX7_storeCatches_13 rfl hT1 rfl ?_
    refine g_iload_n X dX7_storeCatches_16 rfl rfl ?_
    obtain ⟨a3, ha3, hf⟩ := dr_e hf
    obtain ⟨hT4, hf⟩ := ck_e hf
    obtain ⟨hg5, hf⟩ := ck_e hf
    refine g_aald (t0 := 4) X dX7_storeCatches_17 ha3 hT4 (by decide) rfl hg5 ?_
    refine g_dup X dX7_storeCatches_18 rfl ?_
    obtain ⟨a6, ha6, hf⟩ := dr_e hf
    obtain ⟨hT7, hf⟩ := ck_e hf
    refine g_get (ci := 0) (v := vI (mI M a6 4)) 4 X cdX1 i_X7_storeCatches_X1 (by decide) k_X7_storeCatches_f116 rfl dX7_storeCatches_19 ha6 hT7 rfl ?_
    refine g_aload_n X dX7_storeCatches_22 rfl rfl ?_
    refine g_get (ci := 6) (v := vR (mR M x0 7)) 7 X cdX7 i_X7_storeCatches_X7 (by decide) k_X7_storeCatches_f23 rfl dX7_storeCatches_23 rfl hT1 rfl ?_
    refine g_iload_n X dX7_storeCatches_26 rfl rfl ?_
    obtain ⟨hg8, hf⟩ := ck_e hf
    refine g_aald (t0 := 4) X dX7_storeCatches_27 ha3 hT4 (by decide) rfl hg8 ?_
    refine g_get (ci := 0) (v := vI (mI M a6 5)) 5 X cdX1 i_X7_storeCatches_X1 (by decide) k_X7_storeCatches_f196 rfl dX7_storeCatches_28 ha6 hT7 rfl ?_
    refine g_iadd X dX7_storeCatches_31 ?_
    refine g_putI (ci := 0) 4 X cdX1 i_X7_storeCatches_X1 (by decide) k_X7_storeCatches_f116 rfl dX7_storeCatches_32 ha6 hT7 (Or.inl rfl) rfl rfl rfl ?_
    obtain ⟨M9, hM9, hf⟩ := lw_e hf
    rw [← hM9]
    have hT10 : mT M9 x0 = 7 := by rw [hM9]; exact hT1
    have hT11 : mT M9 a3 = 24 := by rw [hM9]; exact hT4
    have hT12 : mT M9 a6 = 1 := by rw [hM9]; exact hT7
    refine g_iload_n X dX7_storeCatches_35 rfl rfl ?_
    refine g_aload_n X dX7_storeCatches_36 rfl rfl ?_
    refine g_get (ci := 6) (v := vR (mR M9 x0 7)) 7 X cdX7 i_X7_storeCatches_X7 (by decide) k_X7_storeCatches_f23 rfl dX7_storeCatches_37 rfl hT10 rfl ?_
    refine g_iload_n X dX7_storeCatches_40 rfl rfl ?_
    obtain ⟨a13, ha13, hf⟩ := dr_e hf
    obtain ⟨hT14, hf⟩ := ck_e hf
    obtain ⟨hg15, hf⟩ := ck_e hf
    refine g_aald (t0 := 4) X dX7_storeCatches_41 ha13 hT14 (by decide) rfl hg15 ?_
    obtain ⟨a16, ha16, hf⟩ := dr_e hf
    obtain ⟨hT17, hf⟩ := ck_e hf
    refine g_get (ci := 0) (v := vI (mI M9 a16 5)) 5 X cdX1 i_X7_storeCatches_X1 (by decide) k_X7_storeCatches_f196 rfl dX7_storeCatches_42 ha16 hT17 rfl ?_
    refine g_iadd X dX7_storeCatches_45 ?_
    refine g_istore_n (lv' := [(1, vI (x1 + (mI M9 a16 5))), (0, vR (some x0)), (2, vI x2)]) X dX7_storeCatches_46 rfl (by decide) rfl ?_
    refine g_iinc (v := (1 : Int32)) (lv' := [(2, vI (x2 + (1 : Int32))), (1, vI (x1 + (mI M9 a16 5))), (0, vR (some x0))]) X dX7_storeCatches_47 rfl (by decide) (by decide) rfl ?_
    refine g_goto (tgt := 4) X dX7_storeCatches_50 (by decide) ?_
    cases hf
    refine g_sub (lvsub_of _ _ [2, 1, 0] rfl) ?_
    exact hK
set_option maxHeartbeats 4000000 in
set_option maxRecDepth 100000 in
theorem tl_X7_storeCatches_4 (X : gX p s m args meth c D cy B (gSt Z B H0) RX7 cX7_storeCatches wsX7_storeCatches 3) (hr : meth.sig.returnType = (some .int)) {Q : State → Prop} : ∀ (M : gMem) (x0 : Nat) (x1 : Int32) (x2 : Int32) (z : Int32 × gMem), lp_X7_storeCatches_4 M x0 x1 x2 = some z → (fun (r : Int32 × gMem) => Q = gMQ below D cy B H0 args s 0 0 (some (vI r.1)) r.2) z → gGo p l e rX7_storeCatches s m args below meth c D cy B H0 3 0 0 Q 4 [(0, vR (some x0)), (1, vI x1), (2, vI x2)] [] M := by
  intro M x0 x1 x2 z hf hK
  refine lp_ind (P := (fun (q : gMem × Int32 × Int32) (z : Int32 × gMem) => (fun (r : Int32 × gMem) => Q = gMQ below D cy B H0 args s 0 0 (some (vI r.1)) r.2) z → gGo p l e rX7_storeCatches s m args below meth c D cy B H0 3 0 0 Q 4 [(0, vR (some x0)), (1, vI q.2.1), (2, vI q.2.2)] [] q.1)) (fun q z hq => ?_) _ _ hf hK
  intro hK
  obtain ⟨w, hw, hm⟩ := hq
  refine tb_X7_storeCatches_4 X hr _ _ _ _ w hw ?_
  cases w with
  | inl a => exact hm hK
  | inr b => cases hm; exact hK
set_option maxHeartbeats 4000000 in
set_option maxRecDepth 100000 in
theorem t_X7_storeCatches_0 (X : gX p s m args meth c D cy B (gSt Z B H0) RX7 cX7_storeCatches wsX7_storeCatches 3) (hr : meth.sig.returnType = (some .int)) {Q : State → Prop} : ∀ (M : gMem) (x0 : Nat) (z : Int32 × gMem), b_X7_storeCatches_0 M x0 = some z → (fun (r : Int32 × gMem) => Q = gMQ below D cy B H0 args s 0 0 (some (vI r.1)) r.2) z → gGo p l e rX7_storeCatches s m args below meth c D cy B H0 3 0 0 Q 0 [(0, vR (some x0))] [] M := by
  intro M x0 z hf hK
  unfold b_X7_storeCatches_0 at hf
  refine g_iconst (v := (0 : Int32)) X dX7_storeCatches_0 (by decide) ?_
  refine g_istore_n (lv' := [(1, vI (0 : Int32)), (0, vR (some x0))]) X dX7_storeCatches_1 rfl (by decide) rfl ?_
  refine g_iconst (v := (0 : Int32)) X dX7_storeCatches_2 (by decide) ?_
  refine g_istore_n (lv' := [(2, vI (0 : Int32)), (1, vI (0 : Int32)), (0, vR (some x0))]) X dX7_storeCatches_3 rfl (by decide) rfl ?_
  refine g_sub (lvsub_of _ _ [2, 1, 0] rfl) ?_
  exact tl_X7_storeCatches_4 X hr _ _ _ _ _ hf hK
set_option maxHeartbeats 4000000 in
set_option maxRecDepth 100000 in
theorem m_X7_storeCatches (l : Launch) {D : va_G} {cy : Nat → ClassId} {B : Nat} {H0 : Heap} {Z : Nat → Nat} {M M1 : gMem} {x0 : Nat} {r : Int32} (hf : f_X7_storeCatches M x0 = some (r, M1)) : Met l yX7_storeCatches wsX7_storeCatches rX7_storeCatches (va_Pc (Value.ref x0 :: List.map gv []) (gPre D cy B H0 (gSt Z B H0) M)) (gQ D cy B H0 (some (vI r)) M1) 0 0 (gA B) := by
  refine Met.ofW (cc := cX7_storeCatches) (maxL := 3) (ret := (some .int)) (by decide) rfl ?_
  intro p e s m args below meth c s₁ Bd hml hv
  obtain ⟨rfl, hW, hKK, hFs⟩ := hv
  have X : gX p s m _ meth c D cy B (gSt Z B H0) RX7 cX7_storeCatches wsX7_storeCatches 3 := ⟨Bd.exec, Bd.bytes, atoms_spec (ws := wsX7_storeCatches) Bd.pre, findClass_of_methodNamed Bd.named, hml, hKK, by rw [hW.1]; exact hW.2.1, Bd.notSynchronized, hFs⟩
  have hr := Bd.returns
  have hl := lv_entry ([.ref x0]) (n := 3) (Nat.le_of_ble_eq_true rfl)
  show W p l e rX7_storeCatches s m _ below meth c s.heap [] 0 0 _ (entryFrame m ([.ref x0] : List Value).toArray 3)
  rw [lg_entry_eq]
  generalize (lg_sl ([.ref x0]) ++ List.replicate (3 - (lg_sl ([.ref x0])).length) Slot.unset).toArray = ls at hl ⊢
  have hl : lv_has ls 3 (List.map gq [(0, vR (some x0))]) := hl
  exact t_X7_storeCatches_0 X hr _ _ _ hf rfl s.heap [] ls hW va_S.rf (lv_has_sub hl (lvsub_of _ _ [0] rfl))
/-! ## TideLots$Shore.passTides(I)I -/
theorem dX7_passTides_0 : decode cX7_passTides 0 = .ok (.iconst 0, 1) := by decide +kernel
theorem dX7_passTides_1 : decode cX7_passTides 1 = .ok (.istore_n 2, 1) := by decide +kernel
theorem dX7_passTides_2 : decode cX7_passTides 2 = .ok (.iconst 0, 1) := by decide +kernel
theorem dX7_passTides_3 : decode cX7_passTides 3 = .ok (.istore_n 3, 1) := by decide +kernel
theorem dX7_passTides_4 : decode cX7_passTides 4 = .ok (.iload_n 3, 1) := by decide +kernel
theorem dX7_passTides_5 : decode cX7_passTides 5 = .ok (.iload_n 1, 1) := by decide +kernel
theorem dX7_passTides_6 : decode cX7_passTides 6 = .ok (.if_icmp .ge 135, 3) := by decide +kernel
theorem dX7_passTides_9 : decode cX7_passTides 9 = .ok (.aload_n 0, 1) := by decide +kernel
theorem dX7_passTides_10 : decode cX7_passTides 10 = .ok (.aload_n 0, 1) := by decide +kernel
theorem dX7_passTides_11 : decode cX7_passTides 11 = .ok (.invokevirtual 133, 3) := by decide +kernel
theorem dX7_passTides_14 : decode cX7_passTides 14 = .ok (.putfield 9, 3) := by decide +kernel
theorem dX7_passTides_17 : decode cX7_passTides 17 = .ok (.aload_n 0, 1) := by decide +kernel
theorem dX7_passTides_18 : decode cX7_passTides 18 = .ok (.invokevirtual 136, 3) := by decide +kernel
theorem dX7_passTides_21 : decode cX7_passTides 21 = .ok (.iconst 0, 1) := by decide +kernel
theorem dX7_passTides_22 : decode cX7_passTides 22 = .ok (.istore 4, 2) := by decide +kernel
theorem dX7_passTides_24 : decode cX7_passTides 24 = .ok (.iload 4, 2) := by decide +kernel
theorem dX7_passTides_26 : decode cX7_passTides 26 = .ok (.aload_n 0, 1) := by decide +kernel
theorem dX7_passTides_27 : decode cX7_passTides 27 = .ok (.getfield 75, 3) := by decide +kernel
theorem dX7_passTides_30 : decode cX7_passTides 30 = .ok (.if_icmp .ge 31, 3) := by decide +kernel
theorem dX7_passTides_33 : decode cX7_passTides 33 = .ok (.aload_n 0, 1) := by decide +kernel
theorem dX7_passTides_34 : decode cX7_passTides 34 = .ok (.aload_n 0, 1) := by decide +kernel
theorem dX7_passTides_35 : decode cX7_passTides 35 = .ok (.getfield 46, 3) := by decide +kernel
theorem dX7_passTides_38 : decode cX7_passTides 38 = .ok (.iload 4, 2) := by decide +kernel
theorem dX7_passTides_40 : decode cX7_passTides 40 = .ok (.iaload, 1) := by decide +kernel
theorem dX7_passTides_41 : decode cX7_passTides 41 = .ok (.aload_n 0, 1) := by decide +kernel
theorem dX7_passTides_42 : decode cX7_passTides 42 = .ok (.aload_n 0, 1) := by decide +kernel
theorem dX7_passTides_43 : decode cX7_passTides 43 = .ok (.getfield 46, 3) := by decide +kernel
theorem dX7_passTides_46 : decode cX7_passTides 46 = .ok (.iload 4, 2) := by decide +kernel
theorem dX7_passTides_48 : decode cX7_passTides 48 = .ok (.iaload, 1) := by decide +kernel
theorem dX7_passTides_49 : decode cX7_passTides 49 = .ok (.invokevirtual 139, 3) := by decide +kernel
theorem dX7_passTides_52 : decode cX7_passTides 52 = .ok (.invokevirtual 143, 3) := by decide +kernel
theorem dX7_passTides_55 : decode cX7_passTides 55 = .ok (.iinc 4 1, 3) := by decide +kernel
theorem dX7_passTides_58 : decode cX7_passTides 58 = .ok (.goto (-34), 3) := by decide +kernel
theorem dX7_passTides_61 : decode cX7_passTides 61 = .ok (.iconst 0, 1) := by decide +kernel
theorem dX7_passTides_62 : decode cX7_passTides 62 = .ok (.istore 4, 2) := by decide +kernel
theorem dX7_passTides_64 : decode cX7_passTides 64 = .ok (.iload 4, 2) := by decide +kernel
theorem dX7_passTides_66 : decode cX7_passTides 66 = .ok (.aload_n 0, 1) := by decide +kernel
theorem dX7_passTides_67 : decode cX7_passTides 67 = .ok (.getfield 81, 3) := by decide +kernel
theorem dX7_passTides_70 : decode cX7_passTides 70 = .ok (.if_icmp .ge 20, 3) := by decide +kernel
theorem dX7_passTides_73 : decode cX7_passTides 73 = .ok (.aload_n 0, 1) := by decide +kernel
theorem dX7_passTides_74 : decode cX7_passTides 74 = .ok (.aload_n 0, 1) := by decide +kernel
theorem dX7_passTides_75 : decode cX7_passTides 75 = .ok (.getfield 35, 3) := by decide +kernel
theorem dX7_passTides_78 : decode cX7_passTides 78 = .ok (.iload 4, 2) := by decide +kernel
theorem dX7_passTides_80 : decode cX7_passTides 80 = .ok (.aaload, 1) := by decide +kernel
theorem dX7_passTides_81 : decode cX7_passTides 81 = .ok (.invokevirtual 147, 3) := by decide +kernel
theorem dX7_passTides_84 : decode cX7_passTides 84 = .ok (.iinc 4 1, 3) := by decide +kernel
theorem dX7_passTides_87 : decode cX7_passTides 87 = .ok (.goto (-23), 3) := by decide +kernel
theorem dX7_passTides_90 : decode cX7_passTides 90 = .ok (.iload_n 2, 1) := by decide +kernel
theorem dX7_passTides_91 : decode cX7_passTides 91 = .ok (.aload_n 0, 1) := by decide +kernel
theorem dX7_passTides_92 : decode cX7_passTides 92 = .ok (.invokevirtual 150, 3) := by decide +kernel
theorem dX7_passTides_95 : decode cX7_passTides 95 = .ok (.iadd, 1) := by decide +kernel
theorem dX7_passTides_96 : decode cX7_passTides 96 = .ok (.istore_n 2, 1) := by decide +kernel
theorem dX7_passTides_97 : decode cX7_passTides 97 = .ok (.iconst 0, 1) := by decide +kernel
theorem dX7_passTides_98 : decode cX7_passTides 98 = .ok (.istore 4, 2) := by decide +kernel
theorem dX7_passTides_100 : decode cX7_passTides 100 = .ok (.iload 4, 2) := by decide +kernel
theorem dX7_passTides_102 : decode cX7_passTides 102 = .ok (.aload_n 0, 1) := by decide +kernel
theorem dX7_passTides_103 : decode cX7_passTides 103 = .ok (.getfield 72, 3) := by decide +kernel
theorem dX7_passTides_106 : decode cX7_passTides 106 = .ok (.if_icmp .ge 19, 3) := by decide +kernel
theorem dX7_passTides_109 : decode cX7_passTides 109 = .ok (.aload_n 0, 1) := by decide +kernel
theorem dX7_passTides_110 : decode cX7_passTides 110 = .ok (.getfield 17, 3) := by decide +kernel
theorem dX7_passTides_113 : decode cX7_passTides 113 = .ok (.iload 4, 2) := by decide +kernel
theorem dX7_passTides_115 : decode cX7_passTides 115 = .ok (.aaload, 1) := by decide +kernel
theorem dX7_passTides_116 : decode cX7_passTides 116 = .ok (.invokevirtual 153, 3) := by decide +kernel
theorem dX7_passTides_119 : decode cX7_passTides 119 = .ok (.iinc 4 1, 3) := by decide +kernel
theorem dX7_passTides_122 : decode cX7_passTides 122 = .ok (.goto (-22), 3) := by decide +kernel
theorem dX7_passTides_125 : decode cX7_passTides 125 = .ok (.aload_n 0, 1) := by decide +kernel
theorem dX7_passTides_126 : decode cX7_passTides 126 = .ok (.dup, 1) := by decide +kernel
theorem dX7_passTides_127 : decode cX7_passTides 127 = .ok (.getfield 103, 3) := by decide +kernel
theorem dX7_passTides_130 : decode cX7_passTides 130 = .ok (.iconst 1, 1) := by decide +kernel
theorem dX7_passTides_131 : decode cX7_passTides 131 = .ok (.iadd, 1) := by decide +kernel
theorem dX7_passTides_132 : decode cX7_passTides 132 = .ok (.putfield 103, 3) := by decide +kernel
theorem dX7_passTides_135 : decode cX7_passTides 135 = .ok (.iinc 3 1, 3) := by decide +kernel
theorem dX7_passTides_138 : decode cX7_passTides 138 = .ok (.goto (-134), 3) := by decide +kernel
theorem dX7_passTides_141 : decode cX7_passTides 141 = .ok (.iload_n 2, 1) := by decide +kernel
theorem dX7_passTides_142 : decode cX7_passTides 142 = .ok (.ireturn, 1) := by decide +kernel
set_option maxRecDepth 20000 in
theorem ggX7_passTides_X3_grow : GoodIn wsX7_passTides wsX3_grow := goodIn_r _ [148, 67, 149, 72, 73, 74, 150, 63, 64, 65, 66, 168, 169, 170, 171] (by decide +kernel) (by decide +kernel)
set_option maxRecDepth 20000 in
theorem gX7_passTides_X3_grow : GoodIn wsX7_passTides (wsV RX7 153 RX3 yX3_grow wsX3_grow) := goodIn_app (goodIn_of _ (by decide +kernel)) ggX7_passTides_X3_grow
set_option maxRecDepth 20000 in
theorem ggX7_passTides_X7_storeCatches : GoodIn wsX7_passTides wsX7_storeCatches := goodIn_r _ [143, 2, 82, 144, 100, 151, 152, 153, 154, 155, 156, 157, 158, 159, 160, 161, 162, 163, 164, 165, 166, 167, 180, 181, 182, 183, 184, 185, 186, 187, 188, 189, 190] (by decide +kernel) (by decide +kernel)
set_option maxRecDepth 20000 in
theorem gX7_passTides_X7_storeCatches : GoodIn wsX7_passTides (wsV RX7 150 RX7 yX7_storeCatches wsX7_storeCatches) := goodIn_app (goodIn_of _ (by decide +kernel)) ggX7_passTides_X7_storeCatches
set_option maxRecDepth 20000 in
theorem ggX7_passTides_X7_split : GoodIn wsX7_passTides wsX7_split := goodIn_r _ [129, 130, 82, 131, 83, 100, 132, 133, 134, 135, 136, 137, 90, 138, 139, 191, 192, 193, 194, 195, 196, 197, 198, 151, 152, 153, 154, 155, 156, 157, 158, 159, 160, 161, 162, 163, 164, 165, 166, 167, 180, 181, 182, 183, 184, 185, 186, 187, 188, 189, 190] (by decide +kernel) (by decide +kernel)
set_option maxRecDepth 20000 in
theorem gX7_passTides_X7_split : GoodIn wsX7_passTides (wsV RX7 147 RX7 yX7_split wsX7_split) := goodIn_app (goodIn_of _ (by decide +kernel)) ggX7_passTides_X7_split
set_option maxRecDepth 20000 in
theorem ggX7_passTides_X7_firstGo : GoodIn wsX7_passTides wsX7_firstGo := goodIn_r _ [24, 25, 26, 27, 7, 28, 20, 29, 30, 31, 32, 33, 34, 35, 36, 37, 38, 39, 40, 41, 42, 43, 44, 45, 46, 47, 48, 49, 50, 51, 52, 53, 54, 55, 56, 57, 58, 59, 60, 61, 62, 63, 64, 65, 66, 67, 68, 69, 70, 71, 72, 73, 74, 75, 76, 77, 78, 79, 80, 12, 81, 82, 83, 4, 5, 84, 85, 86, 87, 88, 89, 90, 91, 92, 93, 94, 151, 152, 153, 154, 155, 156, 157, 158, 159, 160, 161, 162, 163, 164, 165, 166, 167, 172, 173, 174, 175, 168, 169, 170, 171, 176, 177, 178, 179, 180, 181, 182, 183, 184, 185, 186, 187, 188, 189, 190, 191, 192, 193, 194, 195, 196, 197, 198] (by decide +kernel) (by decide +kernel)
set_option maxRecDepth 20000 in
theorem gX7_passTides_X7_firstGo : GoodIn wsX7_passTides (wsV RX7 139 RX7 yX7_firstGo wsX7_firstGo) := goodIn_app (goodIn_of _ (by decide +kernel)) ggX7_passTides_X7_firstGo
set_option maxRecDepth 20000 in
theorem ggX7_passTides_X7_sail : GoodIn wsX7_passTides wsX7_sail := goodIn_r _ [98, 82, 99, 100, 7, 20, 101, 102, 103, 104, 12, 105, 106, 107, 108, 109, 110, 72, 73, 74, 111, 112, 113, 114, 115, 116, 117, 118, 119, 120, 121, 122, 123, 124, 125, 151, 152, 153, 154, 155, 156, 157, 158, 159, 160, 161, 162, 163, 164, 165, 166, 167, 180, 181, 182, 183, 184, 185, 186, 187, 188, 189, 190, 168, 169, 170, 171] (by decide +kernel) (by decide +kernel)
set_option maxRecDepth 20000 in
theorem gX7_passTides_X7_sail : GoodIn wsX7_passTides (wsV RX7 143 RX7 yX7_sail wsX7_sail) := goodIn_app (goodIn_of _ (by decide +kernel)) ggX7_passTides_X7_sail
set_option maxRecDepth 20000 in
theorem ggX7_passTides_X7_drawLots : GoodIn wsX7_passTides wsX7_drawLots := goodIn_r _ [13, 1, 2, 14, 15, 3, 151, 152, 153, 154, 155, 156, 157, 158, 159, 160, 161, 162, 163, 164, 165, 166, 167] (by decide +kernel) (by decide +kernel)
set_option maxRecDepth 20000 in
theorem gX7_passTides_X7_drawLots : GoodIn wsX7_passTides (wsV RX7 133 RX7 yX7_drawLots wsX7_drawLots) := goodIn_app (goodIn_of _ (by decide +kernel)) ggX7_passTides_X7_drawLots
set_option maxRecDepth 20000 in
theorem ggX7_passTides_X7_callBoatsHome : GoodIn wsX7_passTides wsX7_callBoatsHome := goodIn_r _ [19, 6, 7, 20, 151, 152, 153, 154, 155, 156, 157, 158, 159, 160, 161, 162, 163, 164, 165, 166, 167, 168, 169, 170, 171] (by decide +kernel) (by decide +kernel)
set_option maxRecDepth 20000 in
theorem gX7_passTides_X7_callBoatsHome : GoodIn wsX7_passTides (wsV RX7 136 RX7 yX7_callBoatsHome wsX7_callBoatsHome) := goodIn_app (goodIn_of _ (by decide +kernel)) ggX7_passTides_X7_callBoatsHome
theorem k_X7_passTides_f72 : Cond.fieldLink RX7 72 "TideLots$Shore" "groundCount" "I" ∈ wsX7_passTides := by decide +kernel
theorem i_X7_passTides_X7 : ∀ w ∈ u_ws RX7 TX7 17, w ∈ wsX7_passTides := by decide +kernel
theorem k_X7_passTides_f103 : Cond.fieldLink RX7 103 "TideLots$Shore" "tide" "I" ∈ wsX7_passTides := by decide +kernel
theorem k_X7_passTides_f17 : Cond.fieldLink RX7 17 "TideLots$Shore" "grounds" "[LTideLots$Ground;" ∈ wsX7_passTides := by decide +kernel
theorem k_X7_passTides_f81 : Cond.fieldLink RX7 81 "TideLots$Shore" "pactCount" "I" ∈ wsX7_passTides := by decide +kernel
theorem k_X7_passTides_f35 : Cond.fieldLink RX7 35 "TideLots$Shore" "pacts" "[LTideLots$Pact;" ∈ wsX7_passTides := by decide +kernel
theorem k_X7_passTides_f75 : Cond.fieldLink RX7 75 "TideLots$Shore" "fisherCount" "I" ∈ wsX7_passTides := by decide +kernel
theorem k_X7_passTides_f46 : Cond.fieldLink RX7 46 "TideLots$Shore" "lots" "[I" ∈ wsX7_passTides := by decide +kernel
theorem k_X7_passTides_f9 : Cond.fieldLink RX7 9 "TideLots$Shore" "luck" "I" ∈ wsX7_passTides := by decide +kernel
abbrev rX7_passTides : Room := { frames := 5, cells := 0, slots := 0, locals := 117 }
noncomputable def bb_X7_passTides_100 (Z : Nat → Nat) (M : gMem) (x0 : Nat) (x1 : Int32) (x2 : Int32) (x3 : Int32) (x4 : Int32) : Option ((gMem × Int32) ⊕ ((gMem × Int32 × Int32) ⊕ (Int32 × gMem))) :=
  ck (mT M x0 = 7) <| (if (mI M x0 2) ≤ x4 then lw (wI M x0 0 (((mI M x0 0) + (1 : Int32)))) fun M2 => oI (some (.inl (M2, x2, (x3 + (1 : Int32))))) else dr ((mR M x0 6)) fun a5 => ck (mT M a5 = 23) <| ck (inb x4 (mL M a5)) <| dr ((mR M a5 x4.toNatClampNeg)) fun a9 => ck (mT M a9 = 3) <| bd (f_X3_grow M a9) fun _ M8 => some (.inl (M8, (x4 + (1 : Int32)))))
noncomputable def lp_X7_passTides_100 (Z : Nat → Nat) (M : gMem) (x0 : Nat) (x1 : Int32) (x2 : Int32) (x3 : Int32) (x4 : Int32) : Option ((gMem × Int32 × Int32) ⊕ (Int32 × gMem)) :=
  lp (fun (q : gMem × Int32) => bb_X7_passTides_100 Z q.1 x0 x1 x2 x3 q.2) (M, x4)
noncomputable def bb_X7_passTides_64 (Z : Nat → Nat) (M : gMem) (x0 : Nat) (x1 : Int32) (x2 : Int32) (x3 : Int32) (x4 : Int32) : Option ((gMem × Int32) ⊕ ((gMem × Int32 × Int32) ⊕ (Int32 × gMem))) :=
  ck (mT M x0 = 7) <| (if (mI M x0 5) ≤ x4 then bd (f_X7_storeCatches M x0) fun r12 M12 => oI (lp_X7_passTides_100 Z M12 x0 x1 ((x2 + r12)) x3 ((0 : Int32))) else dr ((mR M x0 9)) fun a14 => ck (mT M a14 = 26) <| ck (inb x4 (mL M a14)) <| bd (f_X7_split M x0 ((mR M a14 x4.toNatClampNeg))) fun _ M17 => some (.inl (M17, (x4 + (1 : Int32)))))
noncomputable def lp_X7_passTides_64 (Z : Nat → Nat) (M : gMem) (x0 : Nat) (x1 : Int32) (x2 : Int32) (x3 : Int32) (x4 : Int32) : Option ((gMem × Int32 × Int32) ⊕ (Int32 × gMem)) :=
  lp (fun (q : gMem × Int32) => bb_X7_passTides_64 Z q.1 x0 x1 x2 x3 q.2) (M, x4)
noncomputable def bb_X7_passTides_24 (Z : Nat → Nat) (M : gMem) (x0 : Nat) (x1 : Int32) (x2 : Int32) (x3 : Int32) (x4 : Int32) : Option ((gMem × Int32) ⊕ ((gMem × Int32 × Int32) ⊕ (Int32 × gMem))) :=
  ck (mT M x0 = 7) <| (if (mI M x0 3) ≤ x4 then oI (lp_X7_passTides_64 Z M x0 x1 x2 x3 ((0 : Int32))) else dr ((mR M x0 11)) fun a20 => ck (mT M a20 = 20) <| ck (inb x4 (mL M a20)) <| ck (inb x4 (mL M a20)) <| bd (f_X7_firstGo Z M x0 ((mI M a20 x4.toNatClampNeg))) fun r24 M24 => ck (mT M24 x0 = 7) <| bd (f_X7_sail M24 x0 ((mI M a20 x4.toNatClampNeg)) r24) fun _ M25 => some (.inl (M25, (x4 + (1 : Int32)))))
noncomputable def lp_X7_passTides_24 (Z : Nat → Nat) (M : gMem) (x0 : Nat) (x1 : Int32) (x2 : Int32) (x3 : Int32) (x4 : Int32) : Option ((gMem × Int32 × Int32) ⊕ (Int32 × gMem)) :=
  lp (fun (q : gMem × Int32) => bb_X7_passTides_24 Z q.1 x0 x1 x2 x3 q.2) (M, x4)
noncomputable def bb_X7_passTides_4 (Z : Nat → Nat) (M : gMem) (x0 : Nat) (x1 : Int32) (x2 : Int32) (x3 : Int32) : Option ((gMem × Int32 × Int32) ⊕ (Int32 × gMem)) :=
  (if x1 ≤ x3 then oI (some (x2, M)) else ck (mT M x0 = 7) <| bd (f_X7_drawLots M x0) fun r28 M28 => ck (mT M28 x0 = 7) <| lw (wI M28 x0 1 r28) fun M31 => bd (f_X7_callBoatsHome M31 x0) fun _ M33 => lp_X7_passTides_24 Z M33 x0 x1 x2 x3 ((0 : Int32)))
noncomputable def lp_X7_passTides_4 (Z : Nat → Nat) (M : gMem) (x0 : Nat) (x1 : Int32) (x2 : Int32) (x3 : Int32) : Option (Int32 × gMem) :=
  lp (fun (q : gMem × Int32 × Int32) => bb_X7_passTides_4 Z q.1 x0 x1 q.2.1 q.2.2) (M, x2, x3)
noncomputable def b_X7_passTides_0 (Z : Nat → Nat) (M : gMem) (x0 : Nat) (x1 : Int32) : Option (Int32 × gMem) :=
  lp_X7_passTides_4 Z M x0 x1 ((0 : Int32)) ((0 : Int32))
noncomputable def f_X7_passTides (Z : Nat → Nat) (M : gMem) (x0 : Nat) (x1 : Int32) : Option (Int32 × gMem) :=
  b_X7_passTides_0 Z M x0 x1
set_option maxHeartbeats 4000000 in
set_option maxRecDepth 100000 in
theorem tb_X7_passTides_100 (X : gX p s m args meth c D cy B (gSt Z B H0) RX7 cX7_passTides wsX7_passTides 5) (hr : meth.sig.returnType = (some .int)) {Q : State → Prop} : ∀ (M : gMem) (x0 : Nat) (x1 : Int32) (x2 : Int32) (x3 : Int32) (x4 : Int32) (z : (gMem × Int32) ⊕ ((gMem × Int32 × Int32) ⊕ (Int32 × gMem))), bb_X7_passTides_100 Z M x0 x1 x2 x3 x4 = some z → (Sum.elim (fun (q : gMem × Int32) => gGo p l e rX7_passTides s m args below meth c D cy B H0 5 0 0 Q 100 [(0, vR (some x0)), (1, vI x1), (2, vI x2), (3, vI x3), (4, vI q.2)] [] q.1) (Sum.elim (fun (q : gMem × Int32 × Int32) => gGo p l e rX7_passTides s m args below meth c D cy B H0 5 0 0 Q 4 [(0, vR (some x0)), (1, vI x1), (2, vI q.2.1), (3, vI q.2.2)] [] q.1) (fun (r : Int32 × gMem) => Q = gMQ below D cy B H0 args s 0 0 (some (vI r.1)) r.2))) z → gGo p l e rX7_passTides s m args below meth c D cy B H0 5 0 0 Q 100 [(0, vR (some x0)), (1, vI x1), (2, vI x2), (3, vI x3), (4, vI x4)] [] M := by
  intro M x0 x1 x2 x3 x4 z hf hK
  unfold bb_X7_passTides_100 at hf
  refine g_iload X dX7_passTides_100 rfl ?_
  refine g_aload_n X dX7_passTides_102 rfl rfl ?_
  obtain ⟨hT1, hf⟩ := ck_e hf
  refine g_get (ci := 6) (v := vI (mI M x0 2)) 2 X cdX7 i_X7_passTides_X7 (by decide) k_X7_passTides_f72 rfl dX7_passTides_103 rfl hT1 rfl ?_
  refine g_icmp_ge (tgt := 125) X dX7_passTides_106 (by decide) (fun hc => ?_) (fun hc => ?_)
  · have hf := ife_t hc hf
    refine g_aload_n X dX7_passTides_125 rfl rfl ?_
    refine g_dup X dX7_passTides_126 rfl ?_
    refine g_get (ci := 6) (v := vI (mI M x0 0)) 0 X cdX7 i_X7_passTides_X7 (by decide) k_X7_passTides_f103 rfl dX7_passTides_127 rfl hT1 rfl ?_
    refine g_iconst (v := (1 : Int32)) X dX7_passTides_130 (by decide) ?_
    refine g_iadd X dX7_passTides_131 ?_
    refine g_putI (ci := 6) 0 X cdX7 i_X7_passTides_X7 (by decide) k_X7_passTides_f103 rfl dX7_passTides_132 rfl hT1 (Or.inl rfl) rfl rfl rfl ?_
    obtain ⟨M2, hM2, hf⟩ := lw_e hf
    rw [← hM2]
    have hT3 : mT M2 x0 = 7 := by rw [hM2]; exact hT1
    refine g_iinc (v := (1 : Int32)) (lv' := [(3, vI (x3 + (1 : Int32))), (0, vR (some x0)), (1, vI x1), (2, vI x2), (4, vI x4)]) X dX7_passTides_135 rfl (by decide) (by decide) rfl ?_
    refine g_goto (tgt := 4) X dX7_passTides_138 (by decide) ?_
    obtain ⟨w4, hw4, hz4⟩ := oI_e hf
    subst hz4
    have hf := hw4
    cases hf
    refine g_sub (lvsub_of _ _ [1, 2, 3, 0] rfl) ?_
    exact hK
  · have hf := ife_f hc hf
    refine g_aload_n X dX7_passTides_109 rfl rfl ?_
    refine g_get (ci := 6) (v := vR (mR M x0 6)) 6 X cdX7 i_X7_passTides_X7 (by decide) k_X7_passTides_f17 rfl dX7_passTides_110 rfl hT1 rfl ?_
    refine g_iload X dX7_passTides_113 rfl ?_
    obtain ⟨a5, ha5, hf⟩ := dr_e hf
    obtain ⟨hT6, hf⟩ := ck_e hf
    obtain ⟨hg7, hf⟩ := ck_e hf
    refine g_aald (t0 := 3) X dX7_passTides_115 ha5 hT6 (by decide) rfl hg7 ?_
    obtain ⟨a9, ha9, hf⟩ := dr_e hf
    obtain ⟨hT10, hf⟩ := ck_e hf
    obtain ⟨r8, M8, hq8, hf⟩ := bd_e hf
    refine g_callV (ci := 2) (b := a9) (As := []) (st := []) (v := none) (M1 := M8) X (m_X3_grow l hq8) (cwV 0 X.2.2.1 gX7_passTides_X3_grow rfl rfl rfl (by decide +kernel) ⟨Nat.le_of_ble_eq_true rfl, Nat.le_of_ble_eq_true rfl⟩) rfl rfl ha9 hT10 (by decide) rfl (Nat.le_of_ble_eq_true rfl) dX7_passTides_116 ⟨by decide, by decide⟩ ?_
    refine g_iinc (v := (1 : Int32)) (lv' := [(4, vI (x4 + (1 : Int32))), (0, vR (some x0)), (1, vI x1), (2, vI x2), (3, vI x3)]) X dX7_passTides_119 rfl (by decide) (by decide) rfl ?_
    refine g_goto (tgt := 100) X dX7_passTides_122 (by decide) ?_
    cases hf
    refine g_sub (lvsub_of _ _ [1, 2, 3, 4, 0] rfl) ?_
    exact hK
set_option maxHeartbeats 4000000 in
set_option maxRecDepth 100000 in
theorem tl_X7_passTides_100 (X : gX p s m args meth c D cy B (gSt Z B H0) RX7 cX7_passTides wsX7_passTides 5) (hr : meth.sig.returnType = (some .int)) {Q : State → Prop} : ∀ (M : gMem) (x0 : Nat) (x1 : Int32) (x2 : Int32) (x3 : Int32) (x4 : Int32) (z : (gMem × Int32 × Int32) ⊕ (Int32 × gMem)), lp_X7_passTides_100 Z M x0 x1 x2 x3 x4 = some z → (Sum.elim (fun (q : gMem × Int32 × Int32) => gGo p l e rX7_passTides s m args below meth c D cy B H0 5 0 0 Q 4 [(0, vR (some x0)), (1, vI x1), (2, vI q.2.1), (3, vI q.2.2)] [] q.1) (fun (r : Int32 × gMem) => Q = gMQ below D cy B H0 args s 0 0 (some (vI r.1)) r.2)) z → gGo p l e rX7_passTides s m args below meth c D cy B H0 5 0 0 Q 100 [(0, vR (some x0)), (1, vI x1), (2, vI x2), (3, vI x3), (4, vI x4)] [] M := by
  intro M x0 x1 x2 x3 x4 z hf hK
  refine lp_ind (P := (fun (q : gMem × Int32) (z : (gMem × Int32 × Int32) ⊕ (Int32 × gMem)) => (Sum.elim (fun (q : gMem × Int32 × Int32) => gGo p l e rX7_passTides s m args below meth c D cy B H0 5 0 0 Q 4 [(0, vR (some x0)), (1, vI x1), (2, vI q.2.1), (3, vI q.2.2)] [] q.1) (fun (r : Int32 × gMem) => Q = gMQ below D cy B H0 args s 0 0 (some (vI r.1)) r.2)) z → gGo p l e rX7_passTides s m args below meth c D cy B H0 5 0 0 Q 100 [(0, vR (some x0)), (1, vI x1), (2, vI x2), (3, vI x3), (4, vI q.2)] [] q.1)) (fun q z hq => ?_) _ _ hf hK
  intro hK
  obtain ⟨w, hw, hm⟩ := hq
  refine tb_X7_passTides_100 X hr _ _ _ _ _ _ w hw ?_
  cases w with
  | inl a => exact hm hK
  | inr b => cases hm; exact hK
set_option maxHeartbeats 4000000 in
set_option maxRecDepth 100000 in
theorem tb_X7_passTides_64 (X : gX p s m args meth c D cy B (gSt Z B H0) RX7 cX7_passTides wsX7_passTides 5) (hr : meth.sig.returnType = (some .int)) {Q : State → Prop} : ∀ (M : gMem) (x0 : Nat) (x1 : Int32) (x2 : Int32) (x3 : Int32) (x4 : Int32) (z : (gMem × Int32) ⊕ ((gMem × Int32 × Int32) ⊕ (Int32 × gMem))), bb_X7_passTides_64 Z M x0 x1 x2 x3 x4 = some z → (Sum.elim (fun (q : gMem × Int32) => gGo p l e rX7_passTides s m args below meth c D cy B H0 5 0 0 Q 64 [(0, vR (some x0)), (1, vI x1), (2, vI x2), (3, vI x3), (4, vI q.2)] [] q.1) (Sum.elim (fun (q : gMem × Int32 × Int32) => gGo p l e rX7_passTides s m args below meth c D cy B H0 5 0 0 Q 4 [(0, vR (some x0)), (1, vI x1), (2, vI q.2.1), (3, vI q.2.2)] [] q.1) (fun (r : Int32 × gMem) => Q = gMQ below D cy B H0 args s 0 0 (some (vI r.1)) r.2))) z → gGo p l e rX7_passTides s m args below meth c D cy B H0 5 0 0 Q 64 [(0, vR (some x0)), (1, vI x1), (2, vI x2), (3, vI x3), (4, vI x4)] [] M := by
  intro M x0 x1 x2 x3 x4 z hf hK
  unfold bb_X7_passTides_64 at hf
  refine g_iload X dX7_passTides_64 rfl ?_
  refine g_aload_n X dX7_passTides_66 rfl rfl ?_
  obtain ⟨hT11, hf⟩ := ck_e hf
  refine g_get (ci := 6) (v := vI (mI M x0 5)) 5 X cdX7 i_X7_passTides_X7 (by decide) k_X7_passTides_f81 rfl dX7_passTides_67 rfl hT11 rfl ?_
  refine g_icmp_ge (tgt := 90) X dX7_passTides_70 (by decide) (fun hc => ?_) (fun hc => ?_)
  · have hf := ife_t hc hf
    refine g_iload_n X dX7_passTides_90 rfl rfl ?_
    refine g_aload_n X dX7_passTides_91 rfl rfl ?_
    obtain ⟨r12, M12, hq12, hf⟩ := bd_e hf
    refine g_callV (ci := 6) (b := x0) (As := []) (st := [vI x2]) (v := some (vI r12)) (M1 := M12) X (m_X7_storeCatches l hq12) (cwV 0 X.2.2.1 gX7_passTides_X7_storeCatches rfl rfl rfl (by decide +kernel) ⟨Nat.le_of_ble_eq_true rfl, Nat.le_of_ble_eq_true rfl⟩) rfl rfl rfl hT11 (by decide) rfl (Nat.le_of_ble_eq_true rfl) dX7_passTides_92 ⟨by decide, by decide⟩ ?_
    refine g_iadd X dX7_passTides_95 ?_
    refine g_istore_n (lv' := [(2, vI (x2 + r12)), (0, vR (some x0)), (1, vI x1), (3, vI x3), (4, vI x4)]) X dX7_passTides_96 rfl (by decide) rfl ?_
    refine g_iconst (v := (0 : Int32)) X dX7_passTides_97 (by decide) ?_
    refine g_istore (lv' := [(4, vI (0 : Int32)), (2, vI (x2 + r12)), (0, vR (some x0)), (1, vI x1), (3, vI x3)]) X dX7_passTides_98 (by decide) rfl ?_
    obtain ⟨w13, hw13, hz13⟩ := oI_e hf
    subst hz13
    have hf := hw13
    refine g_sub (lvsub_of _ _ [2, 3, 1, 4, 0] rfl) ?_
    exact tl_X7_passTides_100 X hr _ _ _ _ _ _ _ hf hK
  · have hf := ife_f hc hf
    refine g_aload_n X dX7_passTides_73 rfl rfl ?_
    refine g_aload_n X dX7_passTides_74 rfl rfl ?_
    refine g_get (ci := 6) (v := vR (mR M x0 9)) 9 X cdX7 i_X7_passTides_X7 (by decide) k_X7_passTides_f35 rfl dX7_passTides_75 rfl hT11 rfl ?_
    refine g_iload X dX7_passTides_78 rfl ?_
    obtain ⟨a14, ha14, hf⟩ := dr_e hf
    obtain ⟨hT15, hf⟩ := ck_e hf
    obtain ⟨hg16, hf⟩ := ck_e hf
    refine g_aald (t0 := 6) X dX7_passTides_80 ha14 hT15 (by decide) rfl hg16 ?_
    obtain ⟨r17, M17, hq17, hf⟩ := bd_e hf
    refine g_callV (ci := 6) (b := x0) (As := [vR (mR M a14 x4.toNatClampNeg)]) (st := []) (v := none) (M1 := M17) X (m_X7_split l hq17) (cwV 1 X.2.2.1 gX7_passTides_X7_split rfl rfl rfl (by decide +kernel) ⟨Nat.le_of_ble_eq_true rfl, Nat.le_of_ble_eq_true rfl⟩) rfl rfl rfl hT11 (by decide) rfl (Nat.le_of_ble_eq_true rfl) dX7_passTides_81 ⟨by decide, by decide⟩ ?_
    refine g_iinc (v := (1 : Int32)) (lv' := [(4, vI (x4 + (1 : Int32))), (0, vR (some x0)), (1, vI x1), (2, vI x2), (3, vI x3)]) X dX7_passTides_84 rfl (by decide) (by decide) rfl ?_
    refine g_goto (tgt := 64) X dX7_passTides_87 (by decide) ?_
    cases hf
    refine g_sub (lvsub_of _ _ [1, 2, 3, 4, 0] rfl) ?_
    exact hK
set_option maxHeartbeats 4000000 in
set_option maxRecDepth 100000 in
theorem tl_X7_passTides_64 (X : gX p s m args meth c D cy B (gSt Z B H0) RX7 cX7_passTides wsX7_passTides 5) (hr : meth.sig.returnType = (some .int)) {Q : State → Prop} : ∀ (M : gMem) (x0 : Nat) (x1 : Int32) (x2 : Int32) (x3 : Int32) (x4 : Int32) (z : (gMem × Int32 × Int32) ⊕ (Int32 × gMem)), lp_X7_passTides_64 Z M x0 x1 x2 x3 x4 = some z → (Sum.elim (fun (q : gMem × Int32 × Int32) => gGo p l e rX7_passTides s m args below meth c D cy B H0 5 0 0 Q 4 [(0, vR (some x0)), (1, vI x1), (2, vI q.2.1), (3, vI q.2.2)] [] q.1) (fun (r : Int32 × gMem) => Q = gMQ below D cy B H0 args s 0 0 (some (vI r.1)) r.2)) z → gGo p l e rX7_passTides s m args below meth c D cy B H0 5 0 0 Q 64 [(0, vR (some x0)), (1, vI x1), (2, vI x2), (3, vI x3), (4, vI x4)] [] M := by
  intro M x0 x1 x2 x3 x4 z hf hK
  refine lp_ind (P := (fun (q : gMem × Int32) (z : (gMem × Int32 × Int32) ⊕ (Int32 × gMem)) => (Sum.elim (fun (q : gMem × Int32 × Int32) => gGo p l e rX7_passTides s m args below meth c D cy B H0 5 0 0 Q 4 [(0, vR (some x0)), (1, vI x1), (2, vI q.2.1), (3, vI q.2.2)] [] q.1) (fun (r : Int32 × gMem) => Q = gMQ below D cy B H0 args s 0 0 (some (vI r.1)) r.2)) z → gGo p l e rX7_passTides s m args below meth c D cy B H0 5 0 0 Q 64 [(0, vR (some x0)), (1, vI x1), (2, vI x2), (3, vI x3), (4, vI q.2)] [] q.1)) (fun q z hq => ?_) _ _ hf hK
  intro hK
  obtain ⟨w, hw, hm⟩ := hq
  refine tb_X7_passTides_64 X hr _ _ _ _ _ _ w hw ?_
  cases w with
  | inl a => exact hm hK
  | inr b => cases hm; exact hK
set_option maxHeartbeats 4000000 in
set_option maxRecDepth 100000 in
theorem tb_X7_passTides_24 (X : gX p s m args meth c D cy B (gSt Z B H0) RX7 cX7_passTides wsX7_passTides 5) (hr : meth.sig.returnType = (some .int)) {Q : State → Prop} : ∀ (M : gMem) (x0 : Nat) (x1 : Int32) (x2 : Int32) (x3 : Int32) (x4 : Int32) (z : (gMem × Int32) ⊕ ((gMem × Int32 × Int32) ⊕ (Int32 × gMem))), bb_X7_passTides_24 Z M x0 x1 x2 x3 x4 = some z → (Sum.elim (fun (q : gMem × Int32) => gGo p l e rX7_passTides s m args below meth c D cy B H0 5 0 0 Q 24 [(0, vR (some x0)), (1, vI x1), (2, vI x2), (3, vI x3), (4, vI q.2)] [] q.1) (Sum.elim (fun (q : gMem × Int32 × Int32) => gGo p l e rX7_passTides s m args below meth c D cy B H0 5 0 0 Q 4 [(0, vR (some x0)), (1, vI x1), (2, vI q.2.1), (3, vI q.2.2)] [] q.1) (fun (r : Int32 × gMem) => Q = gMQ below D cy B H0 args s 0 0 (some (vI r.1)) r.2))) z → gGo p l e rX7_passTides s m args below meth c D cy B H0 5 0 0 Q 24 [(0, vR (some x0)), (1, vI x1), (2, vI x2), (3, vI x3), (4, vI x4)] [] M := by
  intro M x0 x1 x2 x3 x4 z hf hK
  unfold bb_X7_passTides_24 at hf
  refine g_iload X dX7_passTides_24 rfl ?_
  refine g_aload_n X dX7_passTides_26 rfl rfl ?_
  obtain ⟨hT18, hf⟩ := ck_e hf
  refine g_get (ci := 6) (v := vI (mI M x0 3)) 3 X cdX7 i_X7_passTides_X7 (by decide) k_X7_passTides_f75 rfl dX7_passTides_27 rfl hT18 rfl ?_
  refine g_icmp_ge (tgt := 61) X dX7_passTides_30 (by decide) (fun hc => ?_) (fun hc => ?_)
  · have hf := ife_t hc hf
    refine g_iconst (v := (0 : Int32)) X dX7_passTides_61 (by decide) ?_
    refine g_istore (lv' := [(4, vI (0 : Int32)), (0, vR (some x0)), (1, vI x1), (2, vI x2), (3, vI x3)]) X dX7_passTides_62 (by decide) rfl ?_
    obtain ⟨w19, hw19, hz19⟩ := oI_e hf
    subst hz19
    have hf := hw19
    refine g_sub (lvsub_of _ _ [1, 2, 3, 4, 0] rfl) ?_
    exact tl_X7_passTides_64 X hr _ _ _ _ _ _ _ hf hK
  · have hf := ife_f hc hf
    refine g_aload_n X dX7_passTides_33 rfl rfl ?_
    refine g_aload_n X dX7_passTides_34 rfl rfl ?_
    refine g_get (ci := 6) (v := vR (mR M x0 11)) 11 X cdX7 i_X7_passTides_X7 (by decide) k_X7_passTides_f46 rfl dX7_passTides_35 rfl hT18 rfl ?_
    refine g_iload X dX7_passTides_38 rfl ?_
    obtain ⟨a20, ha20, hf⟩ := dr_e hf
    obtain ⟨hT21, hf⟩ := ck_e hf
    obtain ⟨hg22, hf⟩ := ck_e hf
    refine g_iald X dX7_passTides_40 ha20 hT21 hg22 ?_
    refine g_aload_n X dX7_passTides_41 rfl rfl ?_
    refine g_aload_n X dX7_passTides_42 rfl rfl ?_
    refine g_get (ci := 6) (v := vR (mR M x0 11)) 11 X cdX7 i_X7_passTides_X7 (by decide) k_X7_passTides_f46 rfl dX7_passTides_43 rfl hT18 rfl ?_
    refine g_iload X dX7_passTides_46 rfl ?_
    obtain ⟨hg23, hf⟩ := ck_e hf
    refine g_iald X dX7_passTides_48 ha20 hT21 hg23 ?_
    obtain ⟨r24, M24, hq24, hf⟩ := bd_e hf
    refine g_callV (ci := 6) (b := x0) (As := [vI (mI M a20 x4.toNatClampNeg)]) (st := [vI (mI M a20 x4.toNatClampNeg), vR (some x0)]) (v := some (vI r24)) (M1 := M24) X (m_X7_firstGo l hq24) (cwV 1 X.2.2.1 gX7_passTides_X7_firstGo rfl rfl rfl (by decide +kernel) ⟨Nat.le_of_ble_eq_true rfl, Nat.le_of_ble_eq_true rfl⟩) rfl rfl rfl hT18 (by decide) rfl (Nat.le_of_ble_eq_true rfl) dX7_passTides_49 ⟨by decide, by decide⟩ ?_
    obtain ⟨hT26, hf⟩ := ck_e hf
    obtain ⟨r25, M25, hq25, hf⟩ := bd_e hf
    refine g_callV (ci := 6) (b := x0) (As := [vI (mI M a20 x4.toNatClampNeg), vI r24]) (st := []) (v := none) (M1 := M25) X (m_X7_sail l hq25) (cwV 2 X.2.2.1 gX7_passTides_X7_sail rfl rfl rfl (by decide +kernel) ⟨Nat.le_of_ble_eq_true rfl, Nat.le_of_ble_eq_true rfl⟩) rfl rfl rfl hT26 (by decide) rfl (Nat.le_of_ble_eq_true rfl) dX7_passTides_52 ⟨by decide, by decide⟩ ?_
    refine g_iinc (v := (1 : Int32)) (lv' := [(4, vI (x4 + (1 : Int32))), (0, vR (some x0)), (1, vI x1), (2, vI x2), (3, vI x3)]) X dX7_passTides_55 rfl (by decide) (by decide) rfl ?_
    refine g_goto (tgt := 24) X dX7_passTides_58 (by decide) ?_
    cases hf
    refine g_sub (lvsub_of _ _ [1, 2, 3, 4, 0] rfl) ?_
    exact hK
set_option maxHeartbeats 4000000 in
set_option maxRecDepth 100000 in
theorem tl_X7_passTides_24 (X : gX p s m args meth c D cy B (gSt Z B H0) RX7 cX7_passTides wsX7_passTides 5) (hr : meth.sig.returnType = (some .int)) {Q : State → Prop} : ∀ (M : gMem) (x0 : Nat) (x1 : Int32) (x2 : Int32) (x3 : Int32) (x4 : Int32) (z : (gMem × Int32 × Int32) ⊕ (Int32 × gMem)), lp_X7_passTides_24 Z M x0 x1 x2 x3 x4 = some z → (Sum.elim (fun (q : gMem × Int32 × Int32) => gGo p l e rX7_passTides s m args below meth c D cy B H0 5 0 0 Q 4 [(0, vR (some x0)), (1, vI x1), (2, vI q.2.1), (3, vI q.2.2)] [] q.1) (fun (r : Int32 × gMem) => Q = gMQ below D cy B H0 args s 0 0 (some (vI r.1)) r.2)) z → gGo p l e rX7_passTides s m args below meth c D cy B H0 5 0 0 Q 24 [(0, vR (some x0)), (1, vI x1), (2, vI x2), (3, vI x3), (4, vI x4)] [] M := by
  intro M x0 x1 x2 x3 x4 z hf hK
  refine lp_ind (P := (fun (q : gMem × Int32) (z : (gMem × Int32 × Int32) ⊕ (Int32 × gMem)) => (Sum.elim (fun (q : gMem × Int32 × Int32) => gGo p l e rX7_passTides s m args below meth c D cy B H0 5 0 0 Q 4 [(0, vR (some x0)), (1, vI x1), (2, vI q.2.1), (3, vI q.2.2)] [] q.1) (fun (r : Int32 × gMem) => Q = gMQ below D cy B H0 args s 0 0 (some (vI r.1)) r.2)) z → gGo p l e rX7_passTides s m args below meth c D cy B H0 5 0 0 Q 24 [(0, vR (some x0)), (1, vI x1), (2, vI x2), (3, vI x3), (4, vI q.2)] [] q.1)) (fun q z hq => ?_) _ _ hf hK
  intro hK
  obtain ⟨w, hw, hm⟩ := hq
  refine tb_X7_passTides_24 X hr _ _ _ _ _ _ w hw ?_
  cases w with
  | inl a => exact hm hK
  | inr b => cases hm; exact hK
set_option maxHeartbeats 4000000 in
set_option maxRecDepth 100000 in
theorem tb_X7_passTides_4 (X : gX p s m args meth c D cy B (gSt Z B H0) RX7 cX7_passTides wsX7_passTides 5) (hr : meth.sig.returnType = (some .int)) {Q : State → Prop} : ∀ (M : gMem) (x0 : Nat) (x1 : Int32) (x2 : Int32) (x3 : Int32) (z : (gMem × Int32 × Int32) ⊕ (Int32 × gMem)), bb_X7_passTides_4 Z M x0 x1 x2 x3 = some z → (Sum.elim (fun (q : gMem × Int32 × Int32) => gGo p l e rX7_passTides s m args below meth c D cy B H0 5 0 0 Q 4 [(0, vR (some x0)), (1, vI x1), (2, vI q.2.1), (3, vI q.2.2)] [] q.1) (fun (r : Int32 × gMem) => Q = gMQ below D cy B H0 args s 0 0 (some (vI r.1)) r.2)) z → gGo p l e rX7_passTides s m args below meth c D cy B H0 5 0 0 Q 4 [(0, vR (some x0)), (1, vI x1), (2, vI x2), (3, vI x3)] [] M := by
  intro M x0 x1 x2 x3 z hf hK
  unfold bb_X7_passTides_4 at hf
  refine g_iload_n X dX7_passTides_4 rfl rfl ?_
  refine g_iload_n X dX7_passTides_5 rfl rfl ?_
  refine g_icmp_ge (tgt := 141) X dX7_passTides_6 (by decide) (fun hc => ?_) (fun hc => ?_)
  · have hf := ife_t hc hf
    refine g_iload_n X dX7_passTides_141 rfl rfl ?_
    obtain ⟨w27, hw27, hz27⟩ := oI_e hf
    subst hz27
    have hf := hw27
    cases hf
    refine g_eqQ hK ?_
    exact g_iret X hr dX7_passTides_142
  · have hf := ife_f hc hf
    refine g_aload_n X dX7_passTides_9 rfl rfl ?_
    refine g_aload_n X dX7_passTides_10 rfl rfl ?_
    obtain ⟨hT29, hf⟩ := ck_e hf
    obtain ⟨r28, M28, hq28, hf⟩ := bd_e hf
    refine g_callV (ci := 6) (b := x0) (As := []) (st := [vR (some x0)]) (v := some (vI r28)) (M1 := M28) X (m_X7_drawLots l hq28) (cwV 0 X.2.2.1 gX7_passTides_X7_drawLots rfl rfl rfl (by decide +kernel) ⟨Nat.le_of_ble_eq_true rfl, Nat.le_of_ble_eq_true rfl⟩) rfl rfl rfl hT29 (by decide) rfl (Nat.le_of_ble_eq_true rfl) dX7_passTides_11 ⟨by decide, by decide⟩ ?_
    obtain ⟨hT30, hf⟩ := ck_e hf
    refine g_putI (ci := 6) 1 X cdX7 i_X7_passTides_X7 (by decide) k_X7_passTides_f9 rfl dX7_passTides_14 rfl hT30 (Or.inl rfl) rfl rfl rfl ?_
    obtain ⟨M31, hM31, hf⟩ := lw_e hf
    rw [← hM31]
    have hT32 : mT M31 x0 = 7 := by rw [hM31]; exact hT30
    refine g_aload_n X dX7_passTides_17 rfl rfl ?_
    obtain ⟨r33, M33, hq33, hf⟩ := bd_e hf
    refine g_callV (ci := 6) (b := x0) (As := []) (st := []) (v := none) (M1 := M33) X (m_X7_callBoatsHome l hq33) (cwV 0 X.2.2.1 gX7_passTides_X7_callBoatsHome rfl rfl rfl (by decide +kernel) ⟨Nat.le_of_ble_eq_true rfl, Nat.le_of_ble_eq_true rfl⟩) rfl rfl rfl hT32 (by decide) rfl (Nat.le_of_ble_eq_true rfl) dX7_passTides_18 ⟨by decide, by decide⟩ ?_
    refine g_iconst (v := (0 : Int32)) X dX7_passTides_21 (by decide) ?_
    refine g_istore (lv' := [(4, vI (0 : Int32)), (0, vR (some x0)), (1, vI x1), (2, vI x2), (3, vI x3)]) X dX7_passTides_22 (by decide) rfl ?_
    refine g_sub (lvsub_of _ _ [1, 2, 3, 4, 0] rfl) ?_
    exact tl_X7_passTides_24 X hr _ _ _ _ _ _ _ hf hK
set_option maxHeartbeats 4000000 in
set_option maxRecDepth 100000 in
theorem tl_X7_passTides_4 (X : gX p s m args meth c D cy B (gSt Z B H0) RX7 cX7_passTides wsX7_passTides 5) (hr : meth.sig.returnType = (some .int)) {Q : State → Prop} : ∀ (M : gMem) (x0 : Nat) (x1 : Int32) (x2 : Int32) (x3 : Int32) (z : Int32 × gMem), lp_X7_passTides_4 Z M x0 x1 x2 x3 = some z → (fun (r : Int32 × gMem) => Q = gMQ below D cy B H0 args s 0 0 (some (vI r.1)) r.2) z → gGo p l e rX7_passTides s m args below meth c D cy B H0 5 0 0 Q 4 [(0, vR (some x0)), (1, vI x1), (2, vI x2), (3, vI x3)] [] M := by
  intro M x0 x1 x2 x3 z hf hK
  refine lp_ind (P := (fun (q : gMem × Int32 × Int32) (z : Int32 × gMem) => (fun (r : Int32 × gMem) => Q = gMQ below D cy B H0 args s 0 0 (some (vI r.1)) r.2) z → gGo p l e rX7_passTides s m args below meth c D cy B H0 5 0 0 Q 4 [(0, vR (some x0)), (1, vI x1), (2, vI q.2.1), (3, vI q.2.2)] [] q.1)) (fun q z hq => ?_) _ _ hf hK
  intro hK
  obtain ⟨w, hw, hm⟩ := hq
  refine tb_X7_passTides_4 X hr _ _ _ _ _ w hw ?_
  cases w with
  | inl a => exact hm hK
  | inr b => cases hm; exact hK
set_option maxHeartbeats 4000000 in
set_option maxRecDepth 100000 in
theorem t_X7_passTides_0 (X : gX p s m args meth c D cy B (gSt Z B H0) RX7 cX7_passTides wsX7_passTides 5) (hr : meth.sig.returnType = (some .int)) {Q : State → Prop} : ∀ (M : gMem) (x0 : Nat) (x1 : Int32) (z : Int32 × gMem), b_X7_passTides_0 Z M x0 x1 = some z → (fun (r : Int32 × gMem) => Q = gMQ below D cy B H0 args s 0 0 (some (vI r.1)) r.2) z → gGo p l e rX7_passTides s m args below meth c D cy B H0 5 0 0 Q 0 [(0, vR (some x0)), (1, vI x1)] [] M := by
  intro M x0 x1 z hf hK
  unfold b_X7_passTides_0 at hf
  refine g_iconst (v := (0 : Int32)) X dX7_passTides_0 (by decide) ?_
  refine g_istore_n (lv' := [(2, vI (0 : Int32)), (0, vR (some x0)), (1, vI x1)]) X dX7_passTides_1 rfl (by decide) rfl ?_
  refine g_iconst (v := (0 : Int32)) X dX7_passTides_2 (by decide) ?_
  refine g_istore_n (lv' := [(3, vI (0 : Int32)), (2, vI (0 : Int32)), (0, vR (some x0)), (1, vI x1)]) X dX7_passTides_3 rfl (by decide) rfl ?_
  refine g_sub (lvsub_of _ _ [2, 3, 1, 0] rfl) ?_
  exact tl_X7_passTides_4 X hr _ _ _ _ _ _ hf hK
set_option maxHeartbeats 4000000 in
set_option maxRecDepth 100000 in
theorem m_X7_passTides (l : Launch) {D : va_G} {cy : Nat → ClassId} {B : Nat} {H0 : Heap} {Z : Nat → Nat} {M M1 : gMem} {x0 : Nat} {x1 : Int32} {r : Int32} (hf : f_X7_passTides Z M x0 x1 = some (r, M1)) : Met l yX7_passTides wsX7_passTides rX7_passTides (va_Pc (Value.ref x0 :: List.map gv [vI x1]) (gPre D cy B H0 (gSt Z B H0) M)) (gQ D cy B H0 (some (vI r)) M1) 0 0 (gA B) := by
  refine Met.ofW (cc := cX7_passTides) (maxL := 5) (ret := (some .int)) (by decide) rfl ?_
  intro p e s m args below meth c s₁ Bd hml hv
  obtain ⟨rfl, hW, hKK, hFs⟩ := hv
  have X : gX p s m _ meth c D cy B (gSt Z B H0) RX7 cX7_passTides wsX7_passTides 5 := ⟨Bd.exec, Bd.bytes, atoms_spec (ws := wsX7_passTides) Bd.pre, findClass_of_methodNamed Bd.named, hml, hKK, by rw [hW.1]; exact hW.2.1, Bd.notSynchronized, hFs⟩
  have hr := Bd.returns
  have hl := lv_entry ([.ref x0, .int x1]) (n := 5) (Nat.le_of_ble_eq_true rfl)
  show W p l e rX7_passTides s m _ below meth c s.heap [] 0 0 _ (entryFrame m ([.ref x0, .int x1] : List Value).toArray 5)
  rw [lg_entry_eq]
  generalize (lg_sl ([.ref x0, .int x1]) ++ List.replicate (5 - (lg_sl ([.ref x0, .int x1])).length) Slot.unset).toArray = ls at hl ⊢
  have hl : lv_has ls 5 (List.map gq [(0, vR (some x0)), (1, vI x1)]) := hl
  exact t_X7_passTides_0 X hr _ _ _ _ hf rfl s.heap [] ls hW va_S.rf (lv_has_sub hl (lvsub_of _ _ [0, 1] rfl))
end
