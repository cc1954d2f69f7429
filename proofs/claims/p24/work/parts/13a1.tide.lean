section
variable {p : Program} {l : Launch} {e : Env} {s : State} {m : MethodId} {args : Array Value} {below : List Frame} {meth : Method} {c : Code} {D : va_G} {cy : Nat → ClassId} {B : Nat} {H0 : Heap} {Z : Nat → Nat}
/-! ## TideLots$Shore.callBoatsHome()V -/
theorem dX7_callBoatsHome_0 : decode cX7_callBoatsHome 0 = .ok (.iconst 0, 1) := by decide +kernel
theorem dX7_callBoatsHome_1 : decode cX7_callBoatsHome 1 = .ok (.istore_n 1, 1) := by decide +kernel
theorem dX7_callBoatsHome_2 : decode cX7_callBoatsHome 2 = .ok (.iload_n 1, 1) := by decide +kernel
theorem dX7_callBoatsHome_3 : decode cX7_callBoatsHome 3 = .ok (.aload_n 0, 1) := by decide +kernel
theorem dX7_callBoatsHome_4 : decode cX7_callBoatsHome 4 = .ok (.getfield 72, 3) := by decide +kernel
theorem dX7_callBoatsHome_7 : decode cX7_callBoatsHome 7 = .ok (.if_icmp .ge 19, 3) := by decide +kernel
theorem dX7_callBoatsHome_10 : decode cX7_callBoatsHome 10 = .ok (.aload_n 0, 1) := by decide +kernel
theorem dX7_callBoatsHome_11 : decode cX7_callBoatsHome 11 = .ok (.getfield 17, 3) := by decide +kernel
theorem dX7_callBoatsHome_14 : decode cX7_callBoatsHome 14 = .ok (.iload_n 1, 1) := by decide +kernel
theorem dX7_callBoatsHome_15 : decode cX7_callBoatsHome 15 = .ok (.aaload, 1) := by decide +kernel
theorem dX7_callBoatsHome_16 : decode cX7_callBoatsHome 16 = .ok (.iconst 0, 1) := by decide +kernel
theorem dX7_callBoatsHome_17 : decode cX7_callBoatsHome 17 = .ok (.putfield 156, 3) := by decide +kernel
theorem dX7_callBoatsHome_20 : decode cX7_callBoatsHome 20 = .ok (.iinc 1 1, 3) := by decide +kernel
theorem dX7_callBoatsHome_23 : decode cX7_callBoatsHome 23 = .ok (.goto (-21), 3) := by decide +kernel
theorem dX7_callBoatsHome_26 : decode cX7_callBoatsHome 26 = .ok (.return_, 1) := by decide +kernel
theorem k_X7_callBoatsHome_f72 : Cond.fieldLink RX7 72 "TideLots$Shore" "groundCount" "I" ∈ wsX7_callBoatsHome := by decide +kernel
theorem i_X7_callBoatsHome_X7 : ∀ w ∈ u_ws RX7 TX7 17, w ∈ wsX7_callBoatsHome := by decide +kernel
theorem k_X7_callBoatsHome_f17 : Cond.fieldLink RX7 17 "TideLots$Shore" "grounds" "[LTideLots$Ground;" ∈ wsX7_callBoatsHome := by decide +kernel
theorem k_X7_callBoatsHome_f156 : Cond.fieldLink RX7 156 "TideLots$Ground" "boats" "I" ∈ wsX7_callBoatsHome := by decide +kernel
theorem i_X7_callBoatsHome_X3 : ∀ w ∈ u_ws RX3 TX3 4, w ∈ wsX7_callBoatsHome := by decide +kernel
abbrev rX7_callBoatsHome : Room := { frames := 0, cells := 0, slots := 0, locals := 0 }
noncomputable def bb_X7_callBoatsHome_2 (M : gMem) (x0 : Nat) (x1 : Int32) : Option ((gMem × Int32) ⊕ (Unit × gMem)) :=
  ck (mT M x0 = 7) <| (if (mI M x0 2) ≤ x1 then oI (some ((), M)) else dr ((mR M x0 6)) fun a3 => ck (mT M a3 = 23) <| ck (inb x1 (mL M a3)) <| dr ((mR M a3 x1.toNatClampNeg)) fun a6 => ck (mT M a6 = 3) <| lw (wI M a6 1 ((0 : Int32))) fun M8 => some (.inl (M8, (x1 + (1 : Int32)))))
noncomputable def lp_X7_callBoatsHome_2 (M : gMem) (x0 : Nat) (x1 : Int32) : Option (Unit × gMem) :=
  lp (fun (q : gMem × Int32) => bb_X7_callBoatsHome_2 q.1 x0 q.2) (M, x1)
noncomputable def b_X7_callBoatsHome_0 (M : gMem) (x0 : Nat) : Option (Unit × gMem) :=
  lp_X7_callBoatsHome_2 M x0 ((0 : Int32))
noncomputable def f_X7_callBoatsHome (M : gMem) (x0 : Nat) : Option (Unit × gMem) :=
  b_X7_callBoatsHome_0 M x0
set_option maxHeartbeats 4000000 in
set_option maxRecDepth 100000 in
theorem tb_X7_callBoatsHome_2 (X : gX p s m args meth c D cy B (gSt Z B H0) RX7 cX7_callBoatsHome wsX7_callBoatsHome 2) (hr : meth.sig.returnType = none) {Q : State → Prop} : ∀ (M : gMem) (x0 : Nat) (x1 : Int32) (z : (gMem × Int32) ⊕ (Unit × gMem)), bb_X7_callBoatsHome_2 M x0 x1 = some z → (Sum.elim (fun (q : gMem × Int32) => gGo p l e rX7_callBoatsHome s m args below meth c D cy B H0 2 0 0 Q 2 [(0, vR (some x0)), (1, vI q.2)] [] q.1) (fun (r : Unit × gMem) => Q = gMQ below D cy B H0 args s 0 0 none r.2)) z → gGo p l e rX7_callBoatsHome s m args below meth c D cy B H0 2 0 0 Q 2 [(0, vR (some x0)), (1, vI x1)] [] M := by
  intro M x0 x1 z hf hK
  unfold bb_X7_callBoatsHome_2 at hf
  refine g_iload_n X dX7_callBoatsHome_2 rfl rfl ?_
  refine g_aload_n X dX7_callBoatsHome_3 rfl rfl ?_
  obtain ⟨hT1, hf⟩ := ck_e hf
  refine g_get (ci := 6) (v := vI (mI M x0 2)) 2 X cdX7 i_X7_callBoatsHome_X7 (by decide) k_X7_callBoatsHome_f72 rfl dX7_callBoatsHome_4 rfl hT1 rfl ?_
  refine g_icmp_ge (tgt := 26) X dX7_callBoatsHome_7 (by decide) (fun hc => ?_) (fun hc => ?_)
  · have hf := ife_t hc hf
    obtain ⟨w2, hw2, hz2⟩ := oI_e hf
    subst hz2
    have hf := hw2
    cases hf
    refine g_eqQ hK ?_
    exact g_vret X hr dX7_callBoatsHome_26
  · have hf := ife_f hc hf
    refine g_aload_n X dX7_callBoatsHome_10 rfl rfl ?_
    refine g_get (ci := 6) (v := vR (mR M x0 6)) 6 X cdX7 i_X7_callBoatsHome_X7 (by decide) k_X7_callBoatsHome_f17 rfl dX7_callBoatsHome_11 rfl hT1 rfl ?_
    refine g_iload_n X dX7_callBoatsHome_14 rfl rfl ?_
    obtain ⟨a3, ha3, hf⟩ := dr_e hf
    obtain ⟨hT4, hf⟩ := ck_e hf
    obtain ⟨hg5, hf⟩ := ck_e hf
    refine g_aald (t0 := 3) X dX7_callBoatsHome_15 ha3 hT4 (by decide) rfl hg5 ?_
    refine g_iconst (v := (0 : Int32)) X dX7_callBoatsHome_16 (by decide) ?_
    obtain ⟨a6, ha6, hf⟩ := dr_e hf
    obtain ⟨hT7, hf⟩ := ck_e hf
    refine g_putI (ci := 2) 1 X cdX3 i_X7_callBoatsHome_X3 (by decide) k_X7_callBoatsHome_f156 rfl dX7_callBoatsHome_17 ha6 hT7 (Or.inl rfl) rfl rfl rfl ?_
    obtain ⟨M8, hM8, hf⟩ := lw_e hf
    rw [← hM8]
    have hT9 : mT M8 x0 = 7 := by rw [hM8]; exact hT1
    have hT10 : mT M8 a3 = 23 := by rw [hM8]; exact hT4
    have hT11 : mT M8 a6 = 3 := by rw [hM8]; exact hT7
    refine g_iinc (v := (1 : Int32)) (lv' := [(1, vI (x1 + (1 : Int32))), (0, vR (some x0))]) X dX7_callBoatsHome_20 rfl (by decide) (by decide) rfl ?_
    refine g_goto (tgt := 2) X dX7_callBoatsHome_23 (by decide) ?_
    cases hf
    refine g_sub (lvsub_of _ _ [1, 0] rfl) ?_
    exact hK
set_option maxHeartbeats 4000000 in
set_option maxRecDepth 100000 in
theorem tl_X7_callBoatsHome_2 (X : gX p s m args meth c D cy B (gSt Z B H0) RX7 cX7_callBoatsHome wsX7_callBoatsHome 2) (hr : meth.sig.returnType = none) {Q : State → Prop} : ∀ (M : gMem) (x0 : Nat) (x1 : Int32) (z : Unit × gMem), lp_X7_callBoatsHome_2 M x0 x1 = some z → (fun (r : Unit × gMem) => Q = gMQ below D cy B H0 args s 0 0 none r.2) z → gGo p l e rX7_callBoatsHome s m args below meth c D cy B H0 2 0 0 Q 2 [(0, vR (some x0)), (1, vI x1)] [] M := by
  intro M x0 x1 z hf hK
  refine lp_ind (P := (fun (q : gMem × Int32) (z : Unit × gMem) => (fun (r : Unit × gMem) => Q = gMQ below D cy B H0 args s 0 0 none r.2) z → gGo p l e rX7_callBoatsHome s m args below meth c D cy B H0 2 0 0 Q 2 [(0, vR (some x0)), (1, vI q.2)] [] q.1)) (fun q z hq => ?_) _ _ hf hK
  intro hK
  obtain ⟨w, hw, hm⟩ := hq
  refine tb_X7_callBoatsHome_2 X hr _ _ _ w hw ?_
  cases w with
  | inl a => exact hm hK
  | inr b => cases hm; exact hK
set_option maxHeartbeats 4000000 in
set_option maxRecDepth 100000 in
theorem t_X7_callBoatsHome_0 (X : gX p s m args meth c D cy B (gSt Z B H0) RX7 cX7_callBoatsHome wsX7_callBoatsHome 2) (hr : meth.sig.returnType = none) {Q : State → Prop} : ∀ (M : gMem) (x0 : Nat) (z : Unit × gMem), b_X7_callBoatsHome_0 M x0 = some z → (fun (r : Unit × gMem) => Q = gMQ below D cy B H0 args s 0 0 none r.2) z → gGo p l e rX7_callBoatsHome s m args below meth c D cy B H0 2 0 0 Q 0 [(0, vR (some x0))] [] M := by
  intro M x0 z hf hK
  unfold b_X7_callBoatsHome_0 at hf
  refine g_iconst (v := (0 : Int32)) X dX7_callBoatsHome_0 (by decide) ?_
  refine g_istore_n (lv' := [(1, vI (0 : Int32)), (0, vR (some x0))]) X dX7_callBoatsHome_1 rfl (by decide) rfl ?_
  refine g_sub (lvsub_of _ _ [1, 0] rfl) ?_
  exact tl_X7_callBoatsHome_2 X hr _ _ _ _ hf hK
set_option maxHeartbeats 4000000 in
set_option maxRecDepth 100000 in
theorem m_X7_callBoatsHome (l : Launch) {D : va_G} {cy : Nat → ClassId} {B : Nat} {H0 : Heap} {Z : Nat → Nat} {M M1 : gMem} {x0 : Nat} {r : Unit} (hf : f_X7_callBoatsHome M x0 = some (r, M1)) : Met l yX7_callBoatsHome wsX7_callBoatsHome rX7_callBoatsHome (va_Pc (Value.ref x0 :: List.map gv []) (gPre D cy B H0 (gSt Z B H0) M)) (gQ D cy B H0 none M1) 0 0 (gA B) := by
  refine Met.ofW (cc := cX7_callBoatsHome) (maxL := 2) (ret := none) (by decide) rfl ?_
  intro p e s m args below meth c s₁ Bd hml hv
  obtain ⟨rfl, hW, hKK, hFs⟩ := hv
  have X : gX p s m _ meth c D cy B (gSt Z B H0) RX7 cX7_callBoatsHome wsX7_callBoatsHome 2 := ⟨Bd.exec, Bd.bytes, atoms_spec (ws := wsX7_callBoatsHome) Bd.pre, findClass_of_methodNamed Bd.named, hml, hKK, by rw [hW.1]; exact hW.2.1, Bd.notSynchronized, hFs⟩
  have hr := Bd.returns
  have hl := lv_entry ([.ref x0]) (n := 2) (Nat.le_of_ble_eq_true rfl)
  show W p l e rX7_callBoatsHome s m _ below meth c s.heap [] 0 0 _ (entryFrame m ([.ref x0] : List Value).toArray 2)
  rw [lg_entry_eq]
  generalize (lg_sl ([.ref x0]) ++ List.replicate (2 - (lg_sl ([.ref x0])).length) Slot.unset).toArray = ls at hl ⊢
  have hl : lv_has ls 2 (List.map gq [(0, vR (some x0))]) := hl
  exact t_X7_callBoatsHome_0 X hr _ _ _ hf rfl s.heap [] ls hW va_S.rf (lv_has_sub hl (lvsub_of _ _ [0] rfl))
/-! ## TideLots$Shore.isSpared(II)Z -/
theorem dX7_isSpared_0 : decode cX7_isSpared 0 = .ok (.aload_n 0, 1) := by decide +kernel
theorem dX7_isSpared_1 : decode cX7_isSpared 1 = .ok (.getfield 23, 3) := by decide +kernel
theorem dX7_isSpared_4 : decode cX7_isSpared 4 = .ok (.iload_n 2, 1) := by decide +kernel
theorem dX7_isSpared_5 : decode cX7_isSpared 5 = .ok (.aaload, 1) := by decide +kernel
theorem dX7_isSpared_6 : decode cX7_isSpared 6 = .ok (.getfield 125, 3) := by decide +kernel
theorem dX7_isSpared_9 : decode cX7_isSpared 9 = .ok (.ifCond .eq 5, 3) := by decide +kernel
theorem dX7_isSpared_12 : decode cX7_isSpared 12 = .ok (.iconst 0, 1) := by decide +kernel
theorem dX7_isSpared_13 : decode cX7_isSpared 13 = .ok (.ireturn, 1) := by decide +kernel
theorem dX7_isSpared_14 : decode cX7_isSpared 14 = .ok (.iconst 0, 1) := by decide +kernel
theorem dX7_isSpared_15 : decode cX7_isSpared 15 = .ok (.istore_n 3, 1) := by decide +kernel
theorem dX7_isSpared_16 : decode cX7_isSpared 16 = .ok (.iload_n 3, 1) := by decide +kernel
theorem dX7_isSpared_17 : decode cX7_isSpared 17 = .ok (.aload_n 0, 1) := by decide +kernel
theorem dX7_isSpared_18 : decode cX7_isSpared 18 = .ok (.getfield 81, 3) := by decide +kernel
theorem dX7_isSpared_21 : decode cX7_isSpared 21 = .ok (.if_icmp .ge 67, 3) := by decide +kernel
theorem dX7_isSpared_24 : decode cX7_isSpared 24 = .ok (.aload_n 0, 1) := by decide +kernel
theorem dX7_isSpared_25 : decode cX7_isSpared 25 = .ok (.getfield 35, 3) := by decide +kernel
theorem dX7_isSpared_28 : decode cX7_isSpared 28 = .ok (.iload_n 3, 1) := by decide +kernel
theorem dX7_isSpared_29 : decode cX7_isSpared 29 = .ok (.aaload, 1) := by decide +kernel
theorem dX7_isSpared_30 : decode cX7_isSpared 30 = .ok (.astore 4, 2) := by decide +kernel
theorem dX7_isSpared_32 : decode cX7_isSpared 32 = .ok (.aload 4, 2) := by decide +kernel
theorem dX7_isSpared_34 : decode cX7_isSpared 34 = .ok (.getfield 182, 3) := by decide +kernel
theorem dX7_isSpared_37 : decode cX7_isSpared 37 = .ok (.iload_n 1, 1) := by decide +kernel
theorem dX7_isSpared_38 : decode cX7_isSpared 38 = .ok (.if_icmp .ne 44, 3) := by decide +kernel
theorem dX7_isSpared_41 : decode cX7_isSpared 41 = .ok (.aload 4, 2) := by decide +kernel
theorem dX7_isSpared_43 : decode cX7_isSpared 43 = .ok (.iload_n 2, 1) := by decide +kernel
theorem dX7_isSpared_44 : decode cX7_isSpared 44 = .ok (.invokevirtual 183, 3) := by decide +kernel
theorem dX7_isSpared_47 : decode cX7_isSpared 47 = .ok (.ifCond .eq 35, 3) := by decide +kernel
theorem dX7_isSpared_50 : decode cX7_isSpared 50 = .ok (.aload_n 0, 1) := by decide +kernel
theorem dX7_isSpared_51 : decode cX7_isSpared 51 = .ok (.getfield 17, 3) := by decide +kernel
theorem dX7_isSpared_54 : decode cX7_isSpared 54 = .ok (.iload_n 1, 1) := by decide +kernel
theorem dX7_isSpared_55 : decode cX7_isSpared 55 = .ok (.aaload, 1) := by decide +kernel
theorem dX7_isSpared_56 : decode cX7_isSpared 56 = .ok (.invokevirtual 112, 3) := by decide +kernel
theorem dX7_isSpared_59 : decode cX7_isSpared 59 = .ok (.aload_n 0, 1) := by decide +kernel
theorem dX7_isSpared_60 : decode cX7_isSpared 60 = .ok (.getfield 42, 3) := by decide +kernel
theorem dX7_isSpared_63 : decode cX7_isSpared 63 = .ok (.aload 4, 2) := by decide +kernel
theorem dX7_isSpared_65 : decode cX7_isSpared 65 = .ok (.getfield 187, 3) := by decide +kernel
theorem dX7_isSpared_68 : decode cX7_isSpared 68 = .ok (.aload 4, 2) := by decide +kernel
theorem dX7_isSpared_70 : decode cX7_isSpared 70 = .ok (.getfield 190, 3) := by decide +kernel
theorem dX7_isSpared_73 : decode cX7_isSpared 73 = .ok (.aload_n 0, 1) := by decide +kernel
theorem dX7_isSpared_74 : decode cX7_isSpared 74 = .ok (.invokevirtual 174, 3) := by decide +kernel
theorem dX7_isSpared_77 : decode cX7_isSpared 77 = .ok (.if_icmp .ge 5, 3) := by decide +kernel
theorem dX7_isSpared_80 : decode cX7_isSpared 80 = .ok (.iconst 1, 1) := by decide +kernel
theorem dX7_isSpared_81 : decode cX7_isSpared 81 = .ok (.ireturn, 1) := by decide +kernel
theorem dX7_isSpared_82 : decode cX7_isSpared 82 = .ok (.iinc 3 1, 3) := by decide +kernel
theorem dX7_isSpared_85 : decode cX7_isSpared 85 = .ok (.goto (-69), 3) := by decide +kernel
theorem dX7_isSpared_88 : decode cX7_isSpared 88 = .ok (.iconst 0, 1) := by decide +kernel
theorem dX7_isSpared_89 : decode cX7_isSpared 89 = .ok (.ireturn, 1) := by decide +kernel
set_option maxRecDepth 20000 in
theorem ggX7_isSpared_X5_has : GoodIn wsX7_isSpared wsX5_has := goodIn_r _ [14, 15, 16, 91, 92, 93, 94, 95, 96, 97, 98] (by decide +kernel) (by decide +kernel)
set_option maxRecDepth 20000 in
theorem gX7_isSpared_X5_has : GoodIn wsX7_isSpared (wsV RX7 183 RX5 yX5_has wsX5_has) := goodIn_app (goodIn_of _ (by decide +kernel)) ggX7_isSpared_X5_has
set_option maxRecDepth 20000 in
theorem ggX7_isSpared_X3_allFish : GoodIn wsX7_isSpared wsX3_allFish := goodIn_r _ [21, 22, 99, 100, 101, 102] (by decide +kernel) (by decide +kernel)
set_option maxRecDepth 20000 in
theorem gX7_isSpared_X3_allFish : GoodIn wsX7_isSpared (wsV RX7 112 RX3 yX3_allFish wsX3_allFish) := goodIn_app (goodIn_of _ (by decide +kernel)) ggX7_isSpared_X3_allFish
set_option maxRecDepth 20000 in
theorem ggX7_isSpared_X9_reckon : GoodIn wsX7_isSpared wsX9_reckon := goodIn_2 24 (goodIn_r _ [27, 28, 29, 30, 31, 32, 33, 34, 35, 36, 37, 38, 39, 40, 41, 42, 26, 43, 44, 45, 46, 47, 48, 49] (by decide +kernel) (by decide +kernel)) (goodIn_2 24 (goodIn_r _ [50, 51, 52, 18, 19, 20, 21, 22, 53, 54, 55, 56, 57, 58, 59, 60, 61, 62, 103, 104, 105, 106, 63, 64] (by decide +kernel) (by decide +kernel)) (goodIn_2 24 (goodIn_r _ [65, 66, 67, 68, 69, 70, 71, 72, 73, 74, 75, 76, 77, 78, 79, 80, 81, 82, 83, 84, 85, 86, 87, 88] (by decide +kernel) (by decide +kernel)) (goodIn_r _ [89, 90, 99, 100, 101, 102] (by decide +kernel) (by decide +kernel))))
set_option maxRecDepth 20000 in
theorem gX7_isSpared_X9_reckon : GoodIn wsX7_isSpared (wsV RX7 174 RX9 yX9_reckon wsX9_reckon) := goodIn_app (goodIn_of _ (by decide +kernel)) ggX7_isSpared_X9_reckon
theorem k_X7_isSpared_f81 : Cond.fieldLink RX7 81 "TideLots$Shore" "pactCount" "I" ∈ wsX7_isSpared := by decide +kernel
theorem i_X7_isSpared_X7 : ∀ w ∈ u_ws RX7 TX7 17, w ∈ wsX7_isSpared := by decide +kernel
theorem k_X7_isSpared_f35 : Cond.fieldLink RX7 35 "TideLots$Shore" "pacts" "[LTideLots$Pact;" ∈ wsX7_isSpared := by decide +kernel
theorem k_X7_isSpared_f182 : Cond.fieldLink RX7 182 "TideLots$Pact" "ground" "I" ∈ wsX7_isSpared := by decide +kernel
theorem i_X7_isSpared_X5 : ∀ w ∈ u_ws RX5 TX5 8, w ∈ wsX7_isSpared := by decide +kernel
theorem k_X7_isSpared_f17 : Cond.fieldLink RX7 17 "TideLots$Shore" "grounds" "[LTideLots$Ground;" ∈ wsX7_isSpared := by decide +kernel
theorem k_X7_isSpared_f42 : Cond.fieldLink RX7 42 "TideLots$Shore" "sums" "LTideLots$Sums;" ∈ wsX7_isSpared := by decide +kernel
theorem k_X7_isSpared_f187 : Cond.fieldLink RX7 187 "TideLots$Pact" "sumStart" "I" ∈ wsX7_isSpared := by decide +kernel
theorem k_X7_isSpared_f190 : Cond.fieldLink RX7 190 "TideLots$Pact" "sumEnd" "I" ∈ wsX7_isSpared := by decide +kernel
theorem k_X7_isSpared_f23 : Cond.fieldLink RX7 23 "TideLots$Shore" "fishers" "[LTideLots$Fisher;" ∈ wsX7_isSpared := by decide +kernel
theorem k_X7_isSpared_f125 : Cond.fieldLink RX7 125 "TideLots$Fisher" "isCheat" "Z" ∈ wsX7_isSpared := by decide +kernel
theorem i_X7_isSpared_X1 : ∀ w ∈ u_ws RX1 TX1 11, w ∈ wsX7_isSpared := by decide +kernel
abbrev rX7_isSpared : Room := { frames := 3, cells := 0, slots := 0, locals := 69 }
noncomputable def b_X7_isSpared_82 (Z : Nat → Nat) (M : gMem) (x0 : Nat) (x1 : Int32) (x2 : Int32) (x3 : Int32) : Option ((gMem × Int32) ⊕ (Int32 × gMem)) :=
  some (.inl (M, (x3 + (1 : Int32))))
noncomputable def bb_X7_isSpared_16 (Z : Nat → Nat) (M : gMem) (x0 : Nat) (x1 : Int32) (x2 : Int32) (x3 : Int32) : Option ((gMem × Int32) ⊕ (Int32 × gMem)) :=
  ck (mT M x0 = 7) <| (if (mI M x0 5) ≤ x3 then oI (some ((0 : Int32), M)) else dr ((mR M x0 9)) fun a3 => ck (mT M a3 = 26) <| ck (inb x3 (mL M a3)) <| dr ((mR M a3 x3.toNatClampNeg)) fun a6 => ck (mT M a6 = 5) <| (if (mI M a6 0) = x1 then bd (f_X5_has M a6 x2) fun r8 M8 => (if r8 = 0 then b_X7_isSpared_82 Z M8 x0 x1 x2 x3 else ck (mT M8 x0 = 7) <| dr ((mR M8 x0 6)) fun a10 => ck (mT M8 a10 = 23) <| ck (inb x1 (mL M8 a10)) <| dr ((mR M8 a10 x1.toNatClampNeg)) fun a14 => ck (mT M8 a14 = 3) <| bd (f_X3_allFish M8 a14) fun r13 M13 => ck (mT M13 x0 = 7) <| ck (mT M13 a6 = 5) <| dr ((mR M13 x0 10)) fun a19 => ck (mT M13 a19 = 8) <| bd (f_X9_reckon Z M13 a19 ((mI M13 a6 1)) ((mI M13 a6 2)) ((some x0))) fun r18 M18 => (if r18 ≤ r13 then b_X7_isSpared_82 Z M18 x0 x1 x2 x3 else oI (some ((1 : Int32), M18)))) else b_X7_isSpared_82 Z M x0 x1 x2 x3))
noncomputable def lp_X7_isSpared_16 (Z : Nat → Nat) (M : gMem) (x0 : Nat) (x1 : Int32) (x2 : Int32) (x3 : Int32) : Option (Int32 × gMem) :=
  lp (fun (q : gMem × Int32) => bb_X7_isSpared_16 Z q.1 x0 x1 x2 q.2) (M, x3)
noncomputable def b_X7_isSpared_0 (Z : Nat → Nat) (M : gMem) (x0 : Nat) (x1 : Int32) (x2 : Int32) : Option (Int32 × gMem) :=
  ck (mT M x0 = 7) <| dr ((mR M x0 7)) fun a23 => ck (mT M a23 = 24) <| ck (inb x2 (mL M a23)) <| dr ((mR M a23 x2.toNatClampNeg)) fun a26 => ck (mT M a26 = 1) <| (if (mI M a26 9) = 0 then lp_X7_isSpared_16 Z M x0 x1 x2 ((0 : Int32)) else some ((0 : Int32), M))
noncomputable def f_X7_isSpared (Z : Nat → Nat) (M : gMem) (x0 : Nat) (x1 : Int32) (x2 : Int32) : Option (Int32 × gMem) :=
  b_X7_isSpared_0 Z M x0 x1 x2
set_option maxHeartbeats 4000000 in
set_option maxRecDepth 100000 in
theorem t_X7_isSpared_82 (X : gX p s m args meth c D cy B (gSt Z B H0) RX7 cX7_isSpared wsX7_isSpared 5) (hr : meth.sig.returnType = (some .boolean)) {Q : State → Prop} : ∀ (M : gMem) (x0 : Nat) (x1 : Int32) (x2 : Int32) (x3 : Int32) (z : (gMem × Int32) ⊕ (Int32 × gMem)), b_X7_isSpared_82 Z M x0 x1 x2 x3 = some z → (Sum.elim (fun (q : gMem × Int32) => gGo p l e rX7_isSpared s m args below meth c D cy B H0 5 0 0 Q 16 [(0, vR (some x0)), (1, vI x1), (2, vI x2), (3, vI q.2)] [] q.1) (fun (r : Int32 × gMem) => Q = gMQ below D cy B H0 args s 0 0 (some (vI r.1)) r.2)) z → gGo p l e rX7_isSpared s m args below meth c D cy B H0 5 0 0 Q 82 [(0, vR (some x0)), (1, vI x1), (2, vI x2), (3, vI x3)] [] M := by
  intro M x0 x1 x2 x3 z hf hK
  unfold b_X7_isSpared_82 at hf
  refine g_iinc (v := (1 : Int32)) (lv' := [(3, vI (x3 + (1 : Int32))), (0, vR (some x0)), (1, vI x1), (2, vI x2)]) X dX7_isSpared_82 rfl (by decide) (by decide) rfl ?_
  refine g_goto (tgt := 16) X dX7_isSpared_85 (by decide) ?_
  cases hf
  refine g_sub (lvsub_of _ _ [1, 2, 3, 0] rfl) ?_
  exact hK
set_option maxHeartbeats 4000000 in
set_option maxRecDepth 100000 in
theorem tb_X7_isSpared_16 (X : gX p s m args meth c D cy B (gSt Z B H0) RX7 cX7_isSpared wsX7_isSpared 5) (hr : meth.sig.returnType = (some .boolean)) {Q : State → Prop} : ∀ (M : gMem) (x0 : Nat) (x1 : Int32) (x2 : Int32) (x3 : Int32) (z : (gMem × Int32) ⊕ (Int32 × gMem)), bb_X7_isSpared_16 Z M x0 x1 x2 x3 = some z → (Sum.elim (fun (q : gMem × Int32) => gGo p l e rX7_isSpared s m args below meth c D cy B H0 5 0 0 Q 16 [(0, vR (some x0)), (1, vI x1), (2, vI x2), (3, vI q.2)] [] q.1) (fun (r : Int32 × gMem) => Q = gMQ below D cy B H0 args s 0 0 (some (vI r.1)) r.2)) z → gGo p l e rX7_isSpared s m args below meth c D cy B H0 5 0 0 Q 16 [(0, vR (some x0)), (1, vI x1), (2, vI x2), (3, vI x3)] [] M := by
  intro M x0 x1 x2 x3 z hf hK
  unfold bb_X7_isSpared_16 at hf
  refine g_iload_n X dX7_isSpared_16 rfl rfl ?_
  refine g_aload_n X dX7_isSpared_17 rfl rfl ?_
  obtain ⟨hT1, hf⟩ := ck_e hf
  refine g_get (ci := 6) (v := vI (mI M x0 5)) 5 X cdX7 i_X7_isSpared_X7 (by decide) k_X7_isSpared_f81 rfl dX7_isSpared_18 rfl hT1 rfl ?_
  refine g_icmp_ge (tgt := 88) X dX7_isSpared_21 (by decide) (fun hc => ?_) (fun hc => ?_)
  · have hf := ife_t hc hf
    refine g_iconst (v := (0 : Int32)) X dX7_isSpared_88 (by decide) ?_
    obtain ⟨w2, hw2, hz2⟩ := oI_e hf
    subst hz2
    have hf := hw2
    cases hf
    refine g_eqQ hK ?_
    exact g_zret X hr (gnb (Or.inl rfl)) dX7_isSpared_89
  · have hf := ife_f hc hf
    refine g_aload_n X dX7_isSpared_24 rfl rfl ?_
    refine g_get (ci := 6) (v := vR (mR M x0 9)) 9 X cdX7 i_X7_isSpared_X7 (by decide) k_X7_isSpared_f35 rfl dX7_isSpared_25 rfl hT1 rfl ?_
    refine g_iload_n X dX7_isSpared_28 rfl rfl ?_
    obtain ⟨a3, ha3, hf⟩ := dr_e hf
    obtain ⟨hT4, hf⟩ := ck_e hf
    obtain ⟨hg5, hf⟩ := ck_e hf
    refine g_aald (t0 := 6) X dX7_isSpared_29 ha3 hT4 (by decide) rfl hg5 ?_
    refine g_astore (lv' := [(4, vR (mR M a3 x3.toNatClampNeg)), (0, vR (some x0)), (1, vI x1), (2, vI x2), (3, vI x3)]) X dX7_isSpared_30 (by decide) rfl ?_
    refine g_aload X dX7_isSpared_32 rfl ?_
    obtain ⟨a6, ha6, hf⟩ := dr_e hf
    obtain ⟨hT7, hf⟩ := ck_e hf
    refine g_get (ci := 4) (v := vI (mI M a6 0)) 0 X cdX5 i_X7_isSpared_X5 (by decide) k_X7_isSpared_f182 rfl dX7_isSpared_34 ha6 hT7 rfl ?_
    refine g_iload_n X dX7_isSpared_37 rfl rfl ?_
    refine g_icmp_ne (tgt := 82) X dX7_isSpared_38 (by decide) (fun hc => ?_) (fun hc => ?_)
    · have hf := ife_f hc hf
      refine g_sub (lvsub_of _ _ [1, 2, 3, 4] rfl) ?_
      exact t_X7_isSpared_82 X hr _ _ _ _ _ _ hf hK
    · have hf := ife_t hc hf
      refine g_aload X dX7_isSpared_41 rfl ?_
      refine g_iload_n X dX7_isSpared_43 rfl rfl ?_
      obtain ⟨r8, M8, hq8, hf⟩ := bd_e hf
      refine g_callV (ci := 4) (b := a6) (As := [vI x2]) (st := []) (v := some (vI r8)) (M1 := M8) X (m_X5_has l hq8) (cwV 1 X.2.2.1 gX7_isSpared_X5_has rfl rfl rfl (by decide +kernel) ⟨Nat.le_of_ble_eq_true rfl, Nat.le_of_ble_eq_true rfl⟩) rfl rfl ha6 hT7 (by decide) rfl (Nat.le_of_ble_eq_true rfl) dX7_isSpared_44 ⟨by decide, by decide⟩ ?_
      refine g_if_eq (tgt := 82) X dX7_isSpared_47 (by decide) (fun hc => ?_) (fun hc => ?_)
      · have hf := ife_t hc hf
        refine g_sub (lvsub_of _ _ [1, 2, 3, 4] rfl) ?_
        exact t_X7_isSpared_82 X hr _ _ _ _ _ _ hf hK
      · have hf := ife_f hc hf
        refine g_aload_n X dX7_isSpared_50 rfl rfl ?_
        obtain ⟨hT9, hf⟩ := ck_e hf
        refine g_get (ci := 6) (v := vR (mR M8 x0 6)) 6 X cdX7 i_X7_isSpared_X7 (by decide) k_X7_isSpared_f17 rfl dX7_isSpared_51 rfl hT9 rfl ?_
        refine g_iload_n X dX7_isSpared_54 rfl rfl ?_
        obtain ⟨a10, ha10, hf⟩ := dr_e hf
        obtain ⟨hT11, hf⟩ := ck_e hf
        obtain ⟨hg12, hf⟩ := ck_e hf
        refine g_aald (t0 := 3) X dX7_isSpared_55 ha10 hT11 (by decide) rfl hg12 ?_
        obtain ⟨a14, ha14, hf⟩ := dr_e hf
        obtain ⟨hT15, hf⟩ := ck_e hf
        obtain ⟨r13, M13, hq13, hf⟩ := bd_e hf
        refine g_callV (ci := 2) (b := a14) (As := []) (st := []) (v := some (vI r13)) (M1 := M13) X (m_X3_allFish l hq13) (cwV 0 X.2.2.1 gX7_isSpared_X3_allFish rfl rfl rfl (by decide +kernel) ⟨Nat.le_of_ble_eq_true rfl, Nat.le_of_ble_eq_true rfl⟩) rfl rfl ha14 hT15 (by decide) rfl (Nat.le_of_ble_eq_true rfl) dX7_isSpared_56 ⟨by decide, by decide⟩ ?_
        refine g_aload_n X dX7_isSpared_59 rfl rfl ?_
        obtain ⟨hT16, hf⟩ := ck_e hf
        refine g_get (ci := 6) (v := vR (mR M13 x0 10)) 10 X cdX7 i_X7_isSpared_X7 (by decide) k_X7_isSpared_f42 rfl dX7_isSpared_60 rfl hT16 rfl ?_
        refine g_aload X dX7_isSpared_63 rfl ?_
        obtain ⟨hT17, hf⟩ := ck_e hf
        refine g_get (ci := 4) (v := vI (mI M13 a6 1)) 1 X cdX5 i_X7_isSpared_X5 (by decide) k_X7_isSpared_f187 rfl dX7_isSpared_65 ha6 hT17 rfl ?_
        refine g_aload X dX7_isSpared_68 rfl ?_
        refine g_get (ci := 4) (v := vI (mI M13 a6 2)) 2 X cdX5 i_X7_isSpared_X5 (by decide) k_X7_isSpared_f190 rfl dX7_isSpared_70 ha6 hT17 rfl ?_
        refine g_aload_n X dX7_isSpared_73 rfl rfl ?_
        obtain ⟨a19, ha19, hf⟩ := dr_e hf
        obtain ⟨hT20, hf⟩ := ck_e hf
        obtain ⟨r18, M18, hq18, hf⟩ := bd_e hf
        refine g_callV (ci := 7) (b := a19) (As := [vI (mI M13 a6 1), vI (mI M13 a6 2), vR (some x0)]) (st := [vI r13]) (v := some (vI r18)) (M1 := M18) X (m_X9_reckon l hq18) (cwV 3 X.2.2.1 gX7_isSpared_X9_reckon rfl rfl rfl (by decide +kernel) ⟨Nat.le_of_ble_eq_true rfl, Nat.le_of_ble_eq_true rfl⟩) rfl rfl ha19 hT20 (by decide) rfl (Nat.le_of_ble_eq_true rfl) dX7_isSpared_74 ⟨by decide, by decide⟩ ?_
        refine g_icmp_ge (tgt := 82) X dX7_isSpared_77 (by decide) (fun hc => ?_) (fun hc => ?_)
        · have hf := ife_t hc hf
          refine g_sub (lvsub_of _ _ [1, 2, 3, 4] rfl) ?_
          exact t_X7_isSpared_82 X hr _ _ _ _ _ _ hf hK
        · have hf := ife_f hc hf
          refine g_iconst (v := (1 : Int32)) X dX7_isSpared_80 (by decide) ?_
          obtain ⟨w21, hw21, hz21⟩ := oI_e hf
          subst hz21
          have hf := hw21
          cases hf
          refine g_eqQ hK ?_
          exact g_zret X hr (gnb (Or.inr rfl)) dX7_isSpared_81
set_option maxHeartbeats 4000000 in
set_option maxRecDepth 100000 in
theorem tl_X7_isSpared_16 (X : gX p s m args meth c D cy B (gSt Z B H0) RX7 cX7_isSpared wsX7_isSpared 5) (hr : meth.sig.returnType = (some .boolean)) {Q : State → Prop} : ∀ (M : gMem) (x0 : Nat) (x1 : Int32) (x2 : Int32) (x3 : Int32) (z : Int32 × gMem), lp_X7_isSpared_16 Z M x0 x1 x2 x3 = some z → (fun (r : Int32 × gMem) => Q = gMQ below D cy B H0 args s 0 0 (some (vI r.1)) r.2) z → gGo p l e rX7_isSpared s m args below meth c D cy B H0 5 0 0 Q 16 [(0, vR (some x0)), (1, vI x1), (2, vI x2), (3, vI x3)] [] M := by
  intro M x0 x1 x2 x3 z hf hK
  refine lp_ind (P := (fun (q : gMem × Int32) (z : Int32 × gMem) => (fun (r : Int32 × gMem) => Q = gMQ below D cy B H0 args s 0 0 (some (vI r.1)) r.2) z → gGo p l e rX7_isSpared s m args below meth c D cy B H0 5 0 0 Q 16 [(0, vR (some x0)), (1, vI x1), (2, vI x2), (3, vI q.2)] [] q.1)) (fun q z hq => ?_) _ _ hf hK
  intro hK
  obtain ⟨w, hw, hm⟩ := hq
  refine tb_X7_isSpared_16 X hr _ _ _ _ _ w hw ?_
  cases w with
  | inl a => exact hm hK
  | inr b => cases hm; exact hK
set_option maxHeartbeats 4000000 in
set_option maxRecDepth 100000 in
theorem t_X7_isSpared_0 (X : gX p s m args meth c D cy B (gSt Z B H0) RX7 cX7_isSpared wsX7_isSpared 5) (hr : meth.sig.returnType = (some .boolean)) {Q : State → Prop} : ∀ (M : gMem) (x0 : Nat) (x1 : Int32) (x2 : Int32) (z : Int32 × gMem), b_X7_isSpared_0 Z M x0 x1 x2 = some z → (fun (r : Int32 × gMem) => Q = gMQ below D cy B H0 args s 0 0 (some (vI r.1)) r.2) z → gGo p l e rX7_isSpared s m args below meth c D cy B H0 5 0 0 Q 0 [(0, vR (some x0)), (1, vI x1), (2, vI x2)] [] M := by
  intro M x0 x1 x2 z hf hK
  unfold b_X7_isSpared_0 at hf
  refine g_aload_n X dX7_isSpared_0 rfl rfl ?_
  obtain ⟨hT22, hf⟩ := ck_e hf
  refine g_get (ci := 6) (v := vR (mR M x0 7)) 7 X cdX7 i_X7_isSpared_X7 (by decide) k_X7_isSpared_f23 rfl dX7_isSpared_1 rfl hT22 rfl ?_
  refine g_iload_n X dX7_isSpared_4 rfl rfl ?_
  obtain ⟨a23, ha23, hf⟩ := dr_e hf
  obtain ⟨hT24, hf⟩ := ck_e hf
  obtain ⟨hg25, hf⟩ := ck_e hf
  refine g_aald (t0 := 4) X dX7_isSpared_5 ha23 hT24 (by decide) rfl hg25 ?_
  obtain ⟨a26, ha26, hf⟩ := dr_e hf
  obtain ⟨hT27, hf⟩ := ck_e hf
  refine g_get (ci := 0) (v := vI (mI M a26 9)) 9 X cdX1 i_X7_isSpared_X1 (by decide) k_X7_isSpared_f125 rfl dX7_isSpared_6 ha26 hT27 rfl ?_
  refine g_if_eq (tgt := 14) X dX7_isSpared_9 (by decide) (fun hc => ?_) (fun hc => ?_)
  · have hf := ife_t hc hf
    refine g_iconst (v := (0 : Int32)) X dX7_isSpared_14 (by decide) ?_
    refine g_istore_n (lv' := [(3, vI (0 : Int32)), (0, vR (some x0)), (1, vI x1), (2, vI x2)]) X dX7_isSpared_15 rfl (by decide) rfl ?_
    refine g_sub (lvsub_of _ _ [1, 2, 3, 0] rfl) ?_
    exact tl_X7_isSpared_16 X hr _ _ _ _ _ _ hf hK
  · have hf := ife_f hc hf
    refine g_iconst (v := (0 : Int32)) X dX7_isSpared_12 (by decide) ?_
    cases hf
    refine g_eqQ hK ?_
    exact g_zret X hr (gnb (Or.inl rfl)) dX7_isSpared_13
set_option maxHeartbeats 4000000 in
set_option maxRecDepth 100000 in
theorem m_X7_isSpared (l : Launch) {D : va_G} {cy : Nat → ClassId} {B : Nat} {H0 : Heap} {Z : Nat → Nat} {M M1 : gMem} {x0 : Nat} {x1 : Int32} {x2 : Int32} {r : Int32} (hf : f_X7_isSpared Z M x0 x1 x2 = some (r, M1)) : Met l yX7_isSpared wsX7_isSpared rX7_isSpared (va_Pc (Value.ref x0 :: List.map gv [vI x1, vI x2]) (gPre D cy B H0 (gSt Z B H0) M)) (gQ D cy B H0 (some (vI r)) M1) 0 0 (gA B) := by
  refine Met.ofW (cc := cX7_isSpared) (maxL := 5) (ret := (some .boolean)) (by decide) rfl ?_
  intro p e s m args below meth c s₁ Bd hml hv
  obtain ⟨rfl, hW, hKK, hFs⟩ := hv
  have X : gX p s m _ meth c D cy B (gSt Z B H0) RX7 cX7_isSpared wsX7_isSpared 5 := ⟨Bd.exec, Bd.bytes, atoms_spec (ws := wsX7_isSpared) Bd.pre, findClass_of_methodNamed Bd.named, hml, hKK, by rw [hW.1]; exact hW.2.1, Bd.notSynchronized, hFs⟩
  have hr := Bd.returns
  have hl := lv_entry ([.ref x0, .int x1, .int x2]) (n := 5) (Nat.le_of_ble_eq_true rfl)
  show W p l e rX7_isSpared s m _ below meth c s.heap [] 0 0 _ (entryFrame m ([.ref x0, .int x1, .int x2] : List Value).toArray 5)
  rw [lg_entry_eq]
  generalize (lg_sl ([.ref x0, .int x1, .int x2]) ++ List.replicate (5 - (lg_sl ([.ref x0, .int x1, .int x2])).length) Slot.unset).toArray = ls at hl ⊢
  have hl : lv_has ls 5 (List.map gq [(0, vR (some x0)), (1, vI x1), (2, vI x2)]) := hl
  exact t_X7_isSpared_0 X hr _ _ _ _ _ hf rfl s.heap [] ls hW va_S.rf (lv_has_sub hl (lvsub_of _ _ [0, 1, 2] rfl))
/-! ## TideLots$Shore.firstGo(I)I -/
theorem dX7_firstGo_0 : decode cX7_firstGo 0 = .ok (.iconst 0, 1) := by decide +kernel
theorem dX7_firstGo_1 : decode cX7_firstGo 1 = .ok (.istore_n 2, 1) := by decide +kernel
theorem dX7_firstGo_2 : decode cX7_firstGo 2 = .ok (.iload_n 2, 1) := by decide +kernel
theorem dX7_firstGo_3 : decode cX7_firstGo 3 = .ok (.aload_n 0, 1) := by decide +kernel
theorem dX7_firstGo_4 : decode cX7_firstGo 4 = .ok (.getfield 78, 3) := by decide +kernel
theorem dX7_firstGo_7 : decode cX7_firstGo 7 = .ok (.if_icmp .ge 113, 3) := by decide +kernel
theorem dX7_firstGo_10 : decode cX7_firstGo 10 = .ok (.aload_n 0, 1) := by decide +kernel
theorem dX7_firstGo_11 : decode cX7_firstGo 11 = .ok (.getfield 29, 3) := by decide +kernel
theorem dX7_firstGo_14 : decode cX7_firstGo 14 = .ok (.iload_n 2, 1) := by decide +kernel
theorem dX7_firstGo_15 : decode cX7_firstGo 15 = .ok (.aaload, 1) := by decide +kernel
theorem dX7_firstGo_16 : decode cX7_firstGo 16 = .ok (.astore_n 3, 1) := by decide +kernel
theorem dX7_firstGo_17 : decode cX7_firstGo 17 = .ok (.aload_n 3, 1) := by decide +kernel
theorem dX7_firstGo_18 : decode cX7_firstGo 18 = .ok (.getfield 159, 3) := by decide +kernel
theorem dX7_firstGo_21 : decode cX7_firstGo 21 = .ok (.iload_n 1, 1) := by decide +kernel
theorem dX7_firstGo_22 : decode cX7_firstGo 22 = .ok (.if_icmp .ne 92, 3) := by decide +kernel
theorem dX7_firstGo_25 : decode cX7_firstGo 25 = .ok (.aload_n 0, 1) := by decide +kernel
theorem dX7_firstGo_26 : decode cX7_firstGo 26 = .ok (.getfield 17, 3) := by decide +kernel
theorem dX7_firstGo_29 : decode cX7_firstGo 29 = .ok (.aload_n 3, 1) := by decide +kernel
theorem dX7_firstGo_30 : decode cX7_firstGo 30 = .ok (.getfield 162, 3) := by decide +kernel
theorem dX7_firstGo_33 : decode cX7_firstGo 33 = .ok (.aaload, 1) := by decide +kernel
theorem dX7_firstGo_34 : decode cX7_firstGo 34 = .ok (.getfield 156, 3) := by decide +kernel
theorem dX7_firstGo_37 : decode cX7_firstGo 37 = .ok (.aload_n 0, 1) := by decide +kernel
theorem dX7_firstGo_38 : decode cX7_firstGo 38 = .ok (.getfield 17, 3) := by decide +kernel
theorem dX7_firstGo_41 : decode cX7_firstGo 41 = .ok (.aload_n 3, 1) := by decide +kernel
theorem dX7_firstGo_42 : decode cX7_firstGo 42 = .ok (.getfield 162, 3) := by decide +kernel
theorem dX7_firstGo_45 : decode cX7_firstGo 45 = .ok (.aaload, 1) := by decide +kernel
theorem dX7_firstGo_46 : decode cX7_firstGo 46 = .ok (.getfield 165, 3) := by decide +kernel
theorem dX7_firstGo_49 : decode cX7_firstGo 49 = .ok (.if_icmp .lt 6, 3) := by decide +kernel
theorem dX7_firstGo_52 : decode cX7_firstGo 52 = .ok (.goto 62, 3) := by decide +kernel
theorem dX7_firstGo_55 : decode cX7_firstGo 55 = .ok (.aload_n 3, 1) := by decide +kernel
theorem dX7_firstGo_56 : decode cX7_firstGo 56 = .ok (.getfield 168, 3) := by decide +kernel
theorem dX7_firstGo_59 : decode cX7_firstGo 59 = .ok (.aload_n 3, 1) := by decide +kernel
theorem dX7_firstGo_60 : decode cX7_firstGo 60 = .ok (.getfield 171, 3) := by decide +kernel
theorem dX7_firstGo_63 : decode cX7_firstGo 63 = .ok (.if_icmp .eq 22, 3) := by decide +kernel
theorem dX7_firstGo_66 : decode cX7_firstGo 66 = .ok (.aload_n 0, 1) := by decide +kernel
theorem dX7_firstGo_67 : decode cX7_firstGo 67 = .ok (.getfield 42, 3) := by decide +kernel
theorem dX7_firstGo_70 : decode cX7_firstGo 70 = .ok (.aload_n 3, 1) := by decide +kernel
theorem dX7_firstGo_71 : decode cX7_firstGo 71 = .ok (.getfield 168, 3) := by decide +kernel
theorem dX7_firstGo_74 : decode cX7_firstGo 74 = .ok (.aload_n 3, 1) := by decide +kernel
theorem dX7_firstGo_75 : decode cX7_firstGo 75 = .ok (.getfield 171, 3) := by decide +kernel
theorem dX7_firstGo_78 : decode cX7_firstGo 78 = .ok (.aload_n 0, 1) := by decide +kernel
theorem dX7_firstGo_79 : decode cX7_firstGo 79 = .ok (.invokevirtual 174, 3) := by decide +kernel
theorem dX7_firstGo_82 : decode cX7_firstGo 82 = .ok (.ifCond .eq 7, 3) := by decide +kernel
theorem dX7_firstGo_85 : decode cX7_firstGo 85 = .ok (.iconst 1, 1) := by decide +kernel
theorem dX7_firstGo_86 : decode cX7_firstGo 86 = .ok (.goto 4, 3) := by decide +kernel
theorem dX7_firstGo_89 : decode cX7_firstGo 89 = .ok (.iconst 0, 1) := by decide +kernel
theorem dX7_firstGo_90 : decode cX7_firstGo 90 = .ok (.istore 4, 2) := by decide +kernel
theorem dX7_firstGo_92 : decode cX7_firstGo 92 = .ok (.iload 4, 2) := by decide +kernel
theorem dX7_firstGo_94 : decode cX7_firstGo 94 = .ok (.ifCond .eq 20, 3) := by decide +kernel
theorem dX7_firstGo_97 : decode cX7_firstGo 97 = .ok (.aload_n 0, 1) := by decide +kernel
theorem dX7_firstGo_98 : decode cX7_firstGo 98 = .ok (.aload_n 3, 1) := by decide +kernel
theorem dX7_firstGo_99 : decode cX7_firstGo 99 = .ok (.getfield 162, 3) := by decide +kernel
theorem dX7_firstGo_102 : decode cX7_firstGo 102 = .ok (.iload_n 1, 1) := by decide +kernel
theorem dX7_firstGo_103 : decode cX7_firstGo 103 = .ok (.invokevirtual 178, 3) := by decide +kernel
theorem dX7_firstGo_106 : decode cX7_firstGo 106 = .ok (.ifCond .ne 8, 3) := by decide +kernel
theorem dX7_firstGo_109 : decode cX7_firstGo 109 = .ok (.aload_n 3, 1) := by decide +kernel
theorem dX7_firstGo_110 : decode cX7_firstGo 110 = .ok (.getfield 162, 3) := by decide +kernel
theorem dX7_firstGo_113 : decode cX7_firstGo 113 = .ok (.ireturn, 1) := by decide +kernel
theorem dX7_firstGo_114 : decode cX7_firstGo 114 = .ok (.iinc 2 1, 3) := by decide +kernel
theorem dX7_firstGo_117 : decode cX7_firstGo 117 = .ok (.goto (-115), 3) := by decide +kernel
theorem dX7_firstGo_120 : decode cX7_firstGo 120 = .ok (.iconst (-1), 1) := by decide +kernel
theorem dX7_firstGo_121 : decode cX7_firstGo 121 = .ok (.ireturn, 1) := by decide +kernel
set_option maxRecDepth 20000 in
theorem ggX7_firstGo_X7_isSpared : GoodIn wsX7_firstGo wsX7_isSpared := goodIn_2 24 (goodIn_r _ [60, 61, 62, 63, 64, 65, 4, 10, 66, 67, 68, 69, 70, 71, 72, 73, 74, 75, 41, 42, 43, 44, 45, 11] (by decide +kernel) (by decide +kernel)) (goodIn_2 24 (goodIn_r _ [12, 13, 14, 15, 16, 17, 18, 19, 20, 21, 22, 23, 24, 25, 26, 27, 28, 29, 30, 31, 32, 33, 34, 35] (by decide +kernel) (by decide +kernel)) (goodIn_2 24 (goodIn_r _ [36, 37, 38, 39, 40, 46, 47, 48, 49, 50, 51, 52, 53, 54, 55, 76, 77, 78, 79, 80, 81, 82, 83, 84] (by decide +kernel) (by decide +kernel)) (goodIn_2 24 (goodIn_r _ [85, 86, 87, 88, 89, 90, 91, 92, 105, 106, 107, 108, 109, 110, 111, 112, 113, 114, 115, 116, 117, 118, 119, 120] (by decide +kernel) (by decide +kernel)) (goodIn_r _ [121, 122, 123, 97, 98, 99, 100, 101, 102, 103, 104] (by decide +kernel) (by decide +kernel)))))
set_option maxRecDepth 20000 in
theorem gX7_firstGo_X7_isSpared : GoodIn wsX7_firstGo (wsV RX7 178 RX7 yX7_isSpared wsX7_isSpared) := goodIn_app (goodIn_of _ (by decide +kernel)) ggX7_firstGo_X7_isSpared
set_option maxRecDepth 20000 in
theorem ggX7_firstGo_X9_reckon : GoodIn wsX7_firstGo wsX9_reckon := goodIn_2 24 (goodIn_r _ [15, 16, 17, 18, 19, 20, 21, 22, 23, 24, 25, 26, 27, 28, 29, 30, 14, 31, 32, 33, 34, 35, 36, 37] (by decide +kernel) (by decide +kernel)) (goodIn_2 24 (goodIn_r _ [38, 39, 40, 41, 42, 43, 44, 45, 46, 47, 48, 49, 50, 51, 52, 53, 54, 55, 101, 102, 103, 104, 76, 77] (by decide +kernel) (by decide +kernel)) (goodIn_2 24 (goodIn_r _ [78, 79, 80, 81, 82, 83, 84, 85, 86, 87, 88, 89, 90, 91, 92, 105, 106, 107, 108, 109, 110, 111, 112, 113] (by decide +kernel) (by decide +kernel)) (goodIn_r _ [114, 115, 97, 98, 99, 100] (by decide +kernel) (by decide +kernel))))
set_option maxRecDepth 20000 in
theorem gX7_firstGo_X9_reckon : GoodIn wsX7_firstGo (wsV RX7 174 RX9 yX9_reckon wsX9_reckon) := goodIn_app (goodIn_of _ (by decide +kernel)) ggX7_firstGo_X9_reckon
theorem k_X7_firstGo_f162 : Cond.fieldLink RX7 162 "TideLots$Go" "ground" "I" ∈ wsX7_firstGo := by decide +kernel
theorem i_X7_firstGo_X2 : ∀ w ∈ u_ws RX2 TX2 4, w ∈ wsX7_firstGo := by decide +kernel
theorem k_X7_firstGo_f78 : Cond.fieldLink RX7 78 "TideLots$Shore" "goCount" "I" ∈ wsX7_firstGo := by decide +kernel
theorem i_X7_firstGo_X7 : ∀ w ∈ u_ws RX7 TX7 17, w ∈ wsX7_firstGo := by decide +kernel
theorem k_X7_firstGo_f29 : Cond.fieldLink RX7 29 "TideLots$Shore" "goes" "[LTideLots$Go;" ∈ wsX7_firstGo := by decide +kernel
theorem k_X7_firstGo_f159 : Cond.fieldLink RX7 159 "TideLots$Go" "fisher" "I" ∈ wsX7_firstGo := by decide +kernel
theorem k_X7_firstGo_f17 : Cond.fieldLink RX7 17 "TideLots$Shore" "grounds" "[LTideLots$Ground;" ∈ wsX7_firstGo := by decide +kernel
theorem k_X7_firstGo_f156 : Cond.fieldLink RX7 156 "TideLots$Ground" "boats" "I" ∈ wsX7_firstGo := by decide +kernel
theorem i_X7_firstGo_X3 : ∀ w ∈ u_ws RX3 TX3 4, w ∈ wsX7_firstGo := by decide +kernel
theorem k_X7_firstGo_f165 : Cond.fieldLink RX7 165 "TideLots$Ground" "room" "I" ∈ wsX7_firstGo := by decide +kernel
theorem k_X7_firstGo_f168 : Cond.fieldLink RX7 168 "TideLots$Go" "testStart" "I" ∈ wsX7_firstGo := by decide +kernel
theorem k_X7_firstGo_f171 : Cond.fieldLink RX7 171 "TideLots$Go" "testEnd" "I" ∈ wsX7_firstGo := by decide +kernel
theorem k_X7_firstGo_f42 : Cond.fieldLink RX7 42 "TideLots$Shore" "sums" "LTideLots$Sums;" ∈ wsX7_firstGo := by decide +kernel
abbrev rX7_firstGo : Room := { frames := 4, cells := 0, slots := 0, locals := 93 }
noncomputable def b_X7_firstGo_114 (Z : Nat → Nat) (M : gMem) (x0 : Nat) (x1 : Int32) (x2 : Int32) : Option ((gMem × Int32) ⊕ (Int32 × gMem)) :=
  some (.inl (M, (x2 + (1 : Int32))))
noncomputable def b_X7_firstGo_90 (Z : Nat → Nat) (M : gMem) (x0 : Nat) (x1 : Int32) (x2 : Int32) (x3 : Option Nat) (s0 : Int32) : Option ((gMem × Int32) ⊕ (Int32 × gMem)) :=
  (if s0 = 0 then b_X7_firstGo_114 Z M x0 x1 x2 else dr x3 fun a1 => ck (mT M a1 = 2) <| ck (mT M x0 = 7) <| bd (f_X7_isSpared Z M x0 ((mI M a1 1)) x1) fun r3 M3 => (if r3 = 0 then ck (mT M3 a1 = 2) <| oI (some ((mI M3 a1 1), M3)) else b_X7_firstGo_114 Z M3 x0 x1 x2))
noncomputable def b_X7_firstGo_85 (Z : Nat → Nat) (M : gMem) (x0 : Nat) (x1 : Int32) (x2 : Int32) (x3 : Option Nat) : Option ((gMem × Int32) ⊕ (Int32 × gMem)) :=
  b_X7_firstGo_90 Z M x0 x1 x2 x3 ((1 : Int32))
noncomputable def bb_X7_firstGo_2 (Z : Nat → Nat) (M : gMem) (x0 : Nat) (x1 : Int32) (x2 : Int32) : Option ((gMem × Int32) ⊕ (Int32 × gMem)) :=
  ck (mT M x0 = 7) <| (if (mI M x0 4) ≤ x2 then oI (some ((-1 : Int32), M)) else dr ((mR M x0 8)) fun a9 => ck (mT M a9 = 25) <| ck (inb x2 (mL M a9)) <| dr ((mR M a9 x2.toNatClampNeg)) fun a12 => ck (mT M a12 = 2) <| (if (mI M a12 0) = x1 then dr ((mR M x0 6)) fun a14 => ck (mT M a14 = 23) <| ck (inb (mI M a12 1) (mL M a14)) <| dr ((mR M a14 ((mI M a12 1)).toNatClampNeg)) fun a17 => ck (mT M a17 = 3) <| ck (inb (mI M a12 1) (mL M a14)) <| (if (mI M a17 1) < (mI M a17 0) then (if (mI M a12 2) = (mI M a12 3) then b_X7_firstGo_85 Z M x0 x1 x2 ((mR M a9 x2.toNatClampNeg)) else dr ((mR M x0 10)) fun a21 => ck (mT M a21 = 8) <| bd (f_X9_reckon Z M a21 ((mI M a12 2)) ((mI M a12 3)) ((some x0))) fun r20 M20 => (if r20 = 0 then b_X7_firstGo_90 Z M20 x0 x1 x2 ((mR M a9 x2.toNatClampNeg)) ((0 : Int32)) else b_X7_firstGo_85 Z M20 x0 x1 x2 ((mR M a9 x2.toNatClampNeg)))) else b_X7_firstGo_114 Z M x0 x1 x2) else b_X7_firstGo_114 Z M x0 x1 x2))
noncomputable def lp_X7_firstGo_2 (Z : Nat → Nat) (M : gMem) (x0 : Nat) (x1 : Int32) (x2 : Int32) : Option (Int32 × gMem) :=
  lp (fun (q : gMem × Int32) => bb_X7_firstGo_2 Z q.1 x0 x1 q.2) (M, x2)
noncomputable def b_X7_firstGo_0 (Z : Nat → Nat) (M : gMem) (x0 : Nat) (x1 : Int32) : Option (Int32 × gMem) :=
  lp_X7_firstGo_2 Z M x0 x1 ((0 : Int32))
noncomputable def f_X7_firstGo (Z : Nat → Nat) (M : gMem) (x0 : Nat) (x1 : Int32) : Option (Int32 × gMem) :=
  b_X7_firstGo_0 Z M x0 x1
set_option maxHeartbeats 4000000 in
set_option maxRecDepth 100000 in
theorem t_X7_firstGo_114 (X : gX p s m args meth c D cy B (gSt Z B H0) RX7 cX7_firstGo wsX7_firstGo 5) (hr : meth.sig.returnType = (some .int)) {Q : State → Prop} : ∀ (M : gMem) (x0 : Nat) (x1 : Int32) (x2 : Int32) (z : (gMem × Int32) ⊕ (Int32 × gMem)), b_X7_firstGo_114 Z M x0 x1 x2 = some z → (Sum.elim (fun (q : gMem × Int32) => gGo p l e rX7_firstGo s m args below meth c D cy B H0 5 0 0 Q 2 [(0, vR (some x0)), (1, vI x1), (2, vI q.2)] [] q.1) (fun (r : Int32 × gMem) => Q = gMQ below D cy B H0 args s 0 0 (some (vI r.1)) r.2)) z → gGo p l e rX7_firstGo s m args below meth c D cy B H0 5 0 0 Q 114 [(0, vR (some x0)), (1, vI x1), (2, vI x2)] [] M := by
  intro M x0 x1 x2 z hf hK
  unfold b_X7_firstGo_114 at hf
  refine g_iinc (v := (1 : Int32)) (lv' := [(2, vI (x2 + (1 : Int32))), (0, vR (some x0)), (1, vI x1)]) X dX7_firstGo_114 rfl (by decide) (by decide) rfl ?_
  refine g_goto (tgt := 2) X dX7_firstGo_117 (by decide) ?_
  cases hf
  refine g_sub (lvsub_of _ _ [1, 2, 0] rfl) ?_
  exact hK
set_option maxHeartbeats 4000000 in
set_option maxRecDepth 100000 in
theorem t_X7_firstGo_90 (X : gX p s m args meth c D cy B (gSt Z B H0) RX7 cX7_firstGo wsX7_firstGo 5) (hr : meth.sig.returnType = (some .int)) {Q : State → Prop} : ∀ (M : gMem) (x0 : Nat) (x1 : Int32) (x2 : Int32) (x3 : Option Nat) (s0 : Int32) (z : (gMem × Int32) ⊕ (Int32 × gMem)), b_X7_firstGo_90 Z M x0 x1 x2 x3 s0 = some z → (Sum.elim (fun (q : gMem × Int32) => gGo p l e rX7_firstGo s m args below meth c D cy B H0 5 0 0 Q 2 [(0, vR (some x0)), (1, vI x1), (2, vI q.2)] [] q.1) (fun (r : Int32 × gMem) => Q = gMQ below D cy B H0 args s 0 0 (some (vI r.1)) r.2)) z → gGo p l e rX7_firstGo s m args below meth c D cy B H0 5 0 0 Q 90 [(0, vR (some x0)), (1, vI x1), (2, vI x2), (3, vR x3)] [vI s0] M := by
  intro M x0 x1 x2 x3 s0 z hf hK
  unfold b_X7_firstGo_90 at hf
  refine g_istore (lv' := [(4, vI s0), (0, vR (some x0)), (1, vI x1), (2, vI x2), (3, vR x3)]) X dX7_firstGo_90 (by decide) rfl ?_
  refine g_iload X dX7_firstGo_92 rfl ?_
  refine g_if_eq (tgt := 114) X dX7_firstGo_94 (by decide) (fun hc => ?_) (fun hc => ?_)
  · have hf := ife_t hc hf
    refine g_sub (lvsub_of _ _ [1, 2, 3] rfl) ?_
    exact t_X7_firstGo_114 X hr _ _ _ _ _ hf hK
  · have hf := ife_f hc hf
    refine g_aload_n X dX7_firstGo_97 rfl rfl ?_
    refine g_aload_n X dX7_firstGo_98 rfl rfl ?_
    obtain ⟨a1, ha1, hf⟩ := dr_e hf
    obtain ⟨hT2, hf⟩ := ck_e hf
    refine g_get (ci := 1) (v := vI (mI M a1 1)) 1 X cdX2 i_X7_firstGo_X2 (by decide) k_X7_firstGo_f162 rfl dX7_firstGo_99 ha1 hT2 rfl ?_
    refine g_iload_n X dX7_firstGo_102 rfl rfl ?_
    obtain ⟨hT4, hf⟩ := ck_e hf
    obtain ⟨r3, M3, hq3, hf⟩ := bd_e hf
    refine g_callV (ci := 6) (b := x0) (As := [vI (mI M a1 1), vI x1]) (st := []) (v := some (vI r3)) (M1 := M3) X (m_X7_isSpared l hq3) (cwV 2 X.2.2.1 gX7_firstGo_X7_isSpared rfl rfl rfl (by decide +kernel) ⟨Nat.le_of_ble_eq_true rfl, Nat.le_of_ble_eq_true rfl⟩) rfl rfl rfl hT4 (by decide) rfl (Nat.le_of_ble_eq_true rfl) dX7_firstGo_103 ⟨by decide, by decide⟩ ?_
    refine g_if_ne (tgt := 114) X dX7_firstGo_106 (by decide) (fun hc => ?_) (fun hc => ?_)
    · have hf := ife_f hc hf
      refine g_sub (lvsub_of _ _ [1, 2, 3] rfl) ?_
      exact t_X7_firstGo_114 X hr _ _ _ _ _ hf hK
    · have hf := ife_t hc hf
      refine g_aload_n X dX7_firstGo_109 rfl rfl ?_
      obtain ⟨hT5, hf⟩ := ck_e hf
      refine g_get (ci := 1) (v := vI (mI M3 a1 1)) 1 X cdX2 i_X7_firstGo_X2 (by decide) k_X7_firstGo_f162 rfl dX7_firstGo_110 ha1 hT5 rfl ?_
      obtain ⟨w6, hw6, hz6⟩ := oI_e hf
      subst hz6
      have hf := hw6
      cases hf
      refine g_eqQ hK ?_
      exact g_iret X hr dX7_firstGo_113
set_option maxHeartbeats 4000000 in
set_option maxRecDepth 100000 in
theorem t_X7_firstGo_85 (X : gX p s m args meth c D cy B (gSt Z B H0) RX7 cX7_firstGo wsX7_firstGo 5) (hr : meth.sig.returnType = (some .int)) {Q : State → Prop} : ∀ (M : gMem) (x0 : Nat) (x1 : Int32) (x2 : Int32) (x3 : Option Nat) (z : (gMem × Int32) ⊕ (Int32 × gMem)), b_X7_firstGo_85 Z M x0 x1 x2 x3 = some z → (Sum.elim (fun (q : gMem × Int32) => gGo p l e rX7_firstGo s m args below meth c D cy B H0 5 0 0 Q 2 [(0, vR (some x0)), (1, vI x1), (2, vI q.2)] [] q.1) (fun (r : Int32 × gMem) => Q = gMQ below D cy B H0 args s 0 0 (some (vI r.1)) r.2)) z → gGo p l e rX7_firstGo s m args below meth c D cy B H0 5 0 0 Q 85 [(0, vR (some x0)), (1, vI x1), (2, vI x2), (3, vR x3)] [] M := by
  intro M x0 x1 x2 x3 z hf hK
  unfold b_X7_firstGo_85 at hf
  refine g_iconst (v := (1 : Int32)) X dX7_firstGo_85 (by decide) ?_
  refine g_goto (tgt := 90) X dX7_firstGo_86 (by decide) ?_
  refine g_sub (lvsub_of _ _ [0, 1, 2, 3] rfl) ?_
  exact t_X7_firstGo_90 X hr _ _ _ _ _ _ _ hf hK
set_option maxHeartbeats 4000000 in
set_option maxRecDepth 100000 in
theorem tb_X7_firstGo_2 (X : gX p s m args meth c D cy B (gSt Z B H0) RX7 cX7_firstGo wsX7_firstGo 5) (hr : meth.sig.returnType = (some .int)) {Q : State → Prop} : ∀ (M : gMem) (x0 : Nat) (x1 : Int32) (x2 : Int32) (z : (gMem × Int32) ⊕ (Int32 × gMem)), bb_X7_firstGo_2 Z M x0 x1 x2 = some z → (Sum.elim (fun (q : gMem × Int32) => gGo p l e rX7_firstGo s m args below meth c D cy B H0 5 0 0 Q 2 [(0, vR (some x0)), (1, vI x1), (2, vI q.2)] [] q.1) (fun (r : Int32 × gMem) => Q = gMQ below D cy B H0 args s 0 0 (some (vI r.1)) r.2)) z → gGo p l e rX7_firstGo s m args below meth c D cy B H0 5 0 0 Q 2 [(0, vR (some x0)), (1, vI x1), (2, vI x2)] [] M := by
  intro M x0 x1 x2 z hf hK
  unfold bb_X7_firstGo_2 at hf
  refine g_iload_n X dX7_firstGo_2 rfl rfl ?_
  refine g_aload_n X dX7_firstGo_3 rfl rfl ?_
  obtain ⟨hT7, hf⟩ := ck_e hf
  refine g_get (ci := 6) (v := vI (mI M x0 4)) 4 X cdX7 i_X7_firstGo_X7 (by decide) k_X7_firstGo_f78 rfl dX7_firstGo_4 rfl hT7 rfl ?_
  refine g_icmp_ge (tgt := 120) X dX7_firstGo_7 (by decide) (fun hc => ?_) (fun hc => ?_)
  · have hf := ife_t hc hf
    refine g_iconst (v := (-1 : Int32)) X dX7_firstGo_120 (by decide) ?_
    obtain ⟨w8, hw8, hz8⟩ := oI_e hf
    subst hz8
    have hf := hw8
    cases hf
    refine g_eqQ hK ?_
    exact g_iret X hr dX7_firstGo_121
  · have hf := ife_f hc hf
    refine g_aload_n X dX7_firstGo_10 rfl rfl ?_
    refine g_get (ci := 6) (v := vR (mR M x0 8)) 8 X cdX7 i_X7_firstGo_X7 (by decide) k_X7_firstGo_f29 rfl dX7_firstGo_11 rfl hT7 rfl ?_
    refine g_iload_n X dX7_firstGo_14 rfl rfl ?_
    obtain ⟨a9, ha9, hf⟩ := dr_e hf
    obtain ⟨hT10, hf⟩ := ck_e hf
    obtain ⟨hg11, hf⟩ := ck_e hf
    refine g_aald (t0 := 5) X dX7_firstGo_15 ha9 hT10 (by decide) rfl hg11 ?_
    refine g_astore_n (lv' := [(3, vR (mR M a9 x2.toNatClampNeg)), (0, vR (some x0)), (1, vI x1), (2, vI x2)]) X dX7_firstGo_16 rfl (by decide) rfl ?_
    refine g_aload_n X dX7_firstGo_17 rfl rfl ?_
    obtain ⟨a12, ha12, hf⟩ := dr_e hf
    obtain ⟨hT13, hf⟩ := ck_e hf
    refine g_get (ci := 1) (v := vI (mI M a12 0)) 0 X cdX2 i_X7_firstGo_X2 (by decide) k_X7_firstGo_f159 rfl dX7_firstGo_18 ha12 hT13 rfl ?_
    refine g_iload_n X dX7_firstGo_21 rfl rfl ?_
    refine g_icmp_ne (tgt := 114) X dX7_firstGo_22 (by decide) (fun hc => ?_) (fun hc => ?_)
    · have hf := ife_f hc hf
      refine g_sub (lvsub_of _ _ [1, 2, 3] rfl) ?_
      exact t_X7_firstGo_114 X hr _ _ _ _ _ hf hK
    · have hf := ife_t hc hf
      refine g_aload_n X dX7_firstGo_25 rfl rfl ?_
      refine g_get (ci := 6) (v := vR (mR M x0 6)) 6 X cdX7 i_X7_firstGo_X7 (by decide) k_X7_firstGo_f17 rfl dX7_firstGo_26 rfl hT7 rfl ?_
      refine g_aload_n X dX7_firstGo_29 rfl rfl ?_
      refine g_get (ci := 1) (v := vI (mI M a12 1)) 1 X cdX2 i_X7_firstGo_X2 (by decide) k_X7_firstGo_f162 rfl dX7_firstGo_30 ha12 hT13 rfl ?_
      obtain ⟨a14, ha14, hf⟩ := dr_e hf
      obtain ⟨hT15, hf⟩ := ck_e hf
      obtain ⟨hg16, hf⟩ := ck_e hf
      refine g_aald (t0 := 3) X dX7_firstGo_33 ha14 hT15 (by decide) rfl hg16 ?_
      obtain ⟨a17, ha17, hf⟩ := dr_e hf
      obtain ⟨hT18, hf⟩ := ck_e hf
      refine g_get (ci := 2) (v := vI (mI M a17 1)) 1 X cdX3 i_X7_firstGo_X3 (by decide) k_X7_firstGo_f156 rfl dX7_firstGo_34 ha17 hT18 rfl ?_
      refine g_aload_n X dX7_firstGo_37 rfl rfl ?_
      refine g_get (ci := 6) (v := vR (mR M x0 6)) 6 X cdX7 i_X7_firstGo_X7 (by decide) k_X7_firstGo_f17 rfl dX7_firstGo_38 rfl hT7 rfl ?_
      refine g_aload_n X dX7_firstGo_41 rfl rfl ?_
      refine g_get (ci := 1) (v := vI (mI M a12 1)) 1 X cdX2 i_X7_firstGo_X2 (by decide) k_X7_firstGo_f162 rfl dX7_firstGo_42 ha12 hT13 rfl ?_
      obtain ⟨hg19, hf⟩ := ck_e hf
      refine g_aald (t0 := 3) X dX7_firstGo_45 ha14 hT15 (by decide) rfl hg19 ?_
      refine g_get (ci := 2) (v := vI (mI M a17 0)) 0 X cdX3 i_X7_firstGo_X3 (by decide) k_X7_firstGo_f165 rfl dX7_firstGo_46 ha17 hT18 rfl ?_
      refine g_icmp_lt (tgt := 55) X dX7_firstGo_49 (by decide) (fun hc => ?_) (fun hc => ?_)
      · have hf := ife_t hc hf
        refine g_aload_n X dX7_firstGo_55 rfl rfl ?_
        refine g_get (ci := 1) (v := vI (mI M a12 2)) 2 X cdX2 i_X7_firstGo_X2 (by decide) k_X7_firstGo_f168 rfl dX7_firstGo_56 ha12 hT13 rfl ?_
        refine g_aload_n X dX7_firstGo_59 rfl rfl ?_
        refine g_get (ci := 1) (v := vI (mI M a12 3)) 3 X cdX2 i_X7_firstGo_X2 (by decide) k_X7_firstGo_f171 rfl dX7_firstGo_60 ha12 hT13 rfl ?_
        refine g_icmp_eq (tgt := 85) X dX7_firstGo_63 (by decide) (fun hc => ?_) (fun hc => ?_)
        · have hf := ife_t hc hf
          refine g_sub (lvsub_of _ _ [1, 2, 3, 0] rfl) ?_
          exact t_X7_firstGo_85 X hr _ _ _ _ _ _ hf hK
        · have hf := ife_f hc hf
          refine g_aload_n X dX7_firstGo_66 rfl rfl ?_
          refine g_get (ci := 6) (v := vR (mR M x0 10)) 10 X cdX7 i_X7_firstGo_X7 (by decide) k_X7_firstGo_f42 rfl dX7_firstGo_67 rfl hT7 rfl ?_
          refine g_aload_n X dX7_firstGo_70 rfl rfl ?_
          refine g_get (ci := 1) (v := vI (mI M a12 2)) 2 X cdX2 i_X7_firstGo_X2 (by decide) k_X7_firstGo_f168 rfl dX7_firstGo_71 ha12 hT13 rfl ?_
          refine g_aload_n X dX7_firstGo_74 rfl rfl ?_
          refine g_get (ci := 1) (v := vI (mI M a12 3)) 3 X cdX2 i_X7_firstGo_X2 (by decide) k_X7_firstGo_f171 rfl dX7_firstGo_75 ha12 hT13 rfl ?_
          refine g_aload_n X dX7_firstGo_78 rfl rfl ?_
          obtain ⟨a21, ha21, hf⟩ := dr_e hf
          obtain ⟨hT22, hf⟩ := ck_e hf
          obtain ⟨r20, M20, hq20, hf⟩ := bd_e hf
          refine g_callV (ci := 7) (b := a21) (As := [vI (mI M a12 2), vI (mI M a12 3), vR (some x0)]) (st := []) (v := some (vI r20)) (M1 := M20) X (m_X9_reckon l hq20) (cwV 3 X.2.2.1 gX7_firstGo_X9_reckon rfl rfl rfl (by decide +kernel) ⟨Nat.le_of_ble_eq_true rfl, Nat.le_of_ble_eq_true rfl⟩) rfl rfl ha21 hT22 (by decide) rfl (Nat.le_of_ble_eq_true rfl) dX7_firstGo_79 ⟨by decide, by decide⟩ ?_
          refine g_if_eq (tgt := 89) X dX7_firstGo_82 (by decide) (fun hc => ?_) (fun hc => ?_)
          · have hf := ife_t hc hf
            refine g_iconst (v := (0 : Int32)) X dX7_firstGo_89 (by decide) ?_
            refine g_sub (lvsub_of _ _ [1, 2, 3, 0] rfl) ?_
            exact t_X7_firstGo_90 X hr _ _ _ _ _ _ _ hf hK
          · have hf := ife_f hc hf
            refine g_sub (lvsub_of _ _ [1, 2, 3, 0] rfl) ?_
            exact t_X7_firstGo_85 X hr _ _ _ _ _ _ hf hK
      · have hf := ife_f hc hf
        refine g_goto (tgt := 114) X dX7_firstGo_52 (by decide) ?_
        refine g_sub (lvsub_of _ _ [1, 2, 3] rfl) ?_
        exact t_X7_firstGo_114 X hr _ _ _ _ _ hf hK
set_option maxHeartbeats 4000000 in
set_option maxRecDepth 100000 in
theorem tl_X7_firstGo_2 (X : gX p s m args meth c D cy B (gSt Z B H0) RX7 cX7_firstGo wsX7_firstGo 5) (hr : meth.sig.returnType = (some .int)) {Q : State → Prop} : ∀ (M : gMem) (x0 : Nat) (x1 : Int32) (x2 : Int32) (z : Int32 × gMem), lp_X7_firstGo_2 Z M x0 x1 x2 = some z → (fun (r : Int32 × gMem) => Q = gMQ below D cy B H0 args s 0 0 (some (vI r.1)) r.2) z → gGo p l e rX7_firstGo s m args below meth c D cy B H0 5 0 0 Q 2 [(0, vR (some x0)), (1, vI x1), (2, vI x2)] [] M := by
  intro M x0 x1 x2 z hf hK
  refine lp_ind (P := (fun (q : gMem × Int32) (z : Int32 × gMem) => (fun (r : Int32 × gMem) => Q = gMQ below D cy B H0 args s 0 0 (some (vI r.1)) r.2) z → gGo p l e rX7_firstGo s m args below meth c D cy B H0 5 0 0 Q 2 [(0, vR (some x0)), (1, vI x1), (2, vI q.2)] [] q.1)) (fun q z hq => ?_) _ _ hf hK
  intro hK
  obtain ⟨w, hw, hm⟩ := hq
  refine tb_X7_firstGo_2 X hr _ _ _ _ w hw ?_
  cases w with
  | inl a => exact hm hK
  | inr b => cases hm; exact hK
set_option maxHeartbeats 4000000 in
set_option maxRecDepth 100000 in
theorem t_X7_firstGo_0 (X : gX p s m args meth c D cy B (gSt Z B H0) RX7 cX7_firstGo wsX7_firstGo 5) (hr : meth.sig.returnType = (some .int)) {Q : State → Prop} : ∀ (M : gMem) (x0 : Nat) (x1 : Int32) (z : Int32 × gMem), b_X7_firstGo_0 Z M x0 x1 = some z → (fun (r : Int32 × gMem) => Q = gMQ below D cy B H0 args s 0 0 (some (vI r.1)) r.2) z → gGo p l e rX7_firstGo s m args below meth c D cy B H0 5 0 0 Q 0 [(0, vR (some x0)), (1, vI x1)] [] M := by
  intro M x0 x1 z hf hK
  unfold b_X7_firstGo_0 at hf
  refine g_iconst (v := (0 : Int32)) X dX7_firstGo_0 (by decide) ?_
  refine g_istore_n (lv' := [(2, vI (0 : Int32)), (0, vR (some x0)), (1, vI x1)]) X dX7_firstGo_1 rfl (by decide) rfl ?_
  refine g_sub (lvsub_of _ _ [1, 2, 0] rfl) ?_
  exact tl_X7_firstGo_2 X hr _ _ _ _ _ hf hK
set_option maxHeartbeats 4000000 in
set_option maxRecDepth 100000 in
theorem m_X7_firstGo (l : Launch) {D : va_G} {cy : Nat → ClassId} {B : Nat} {H0 : Heap} {Z : Nat → Nat} {M M1 : gMem} {x0 : Nat} {x1 : Int32} {r : Int32} (hf : f_X7_firstGo Z M x0 x1 = some (r, M1)) : Met l yX7_firstGo wsX7_firstGo rX7_firstGo (va_Pc (Value.ref x0 :: List.map gv [vI x1]) (gPre D cy B H0 (gSt Z B H0) M)) (gQ D cy B H0 (some (vI r)) M1) 0 0 (gA B) := by
  refine Met.ofW (cc := cX7_firstGo) (maxL := 5) (ret := (some .int)) (by decide) rfl ?_
  intro p e s m args below meth c s₁ Bd hml hv
  obtain ⟨rfl, hW, hKK, hFs⟩ := hv
  have X : gX p s m _ meth c D cy B (gSt Z B H0) RX7 cX7_firstGo wsX7_firstGo 5 := ⟨Bd.exec, Bd.bytes, atoms_spec (ws := wsX7_firstGo) Bd.pre, findClass_of_methodNamed Bd.named, hml, hKK, by rw [hW.1]; exact hW.2.1, Bd.notSynchronized, hFs⟩
  have hr := Bd.returns
  have hl := lv_entry ([.ref x0, .int x1]) (n := 5) (Nat.le_of_ble_eq_true rfl)
  show W p l e rX7_firstGo s m _ below meth c s.heap [] 0 0 _ (entryFrame m ([.ref x0, .int x1] : List Value).toArray 5)
  rw [lg_entry_eq]
  generalize (lg_sl ([.ref x0, .int x1]) ++ List.replicate (5 - (lg_sl ([.ref x0, .int x1])).length) Slot.unset).toArray = ls at hl ⊢
  have hl : lv_has ls 5 (List.map gq [(0, vR (some x0)), (1, vI x1)]) := hl
  exact t_X7_firstGo_0 X hr _ _ _ _ hf rfl s.heap [] ls hW va_S.rf (lv_has_sub hl (lvsub_of _ _ [0, 1] rfl))
end
