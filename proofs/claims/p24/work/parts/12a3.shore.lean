section
variable {p : Program} {l : Launch} {e : Env} {s : State} {m : MethodId} {args : Array Value} {below : List Frame} {meth : Method} {c : Code} {D : va_G} {cy : Nat → ClassId} {B : Nat} {H0 : Heap} {Z : Nat → Nat}
/-! ## TideLots$Shore.allCheats()I -/
theorem dX7_allCheats_0 : decode cX7_allCheats 0 = .ok (.iconst 0, 1) := by decide +kernel
theorem dX7_allCheats_1 : decode cX7_allCheats 1 = .ok (.istore_n 1, 1) := by decide +kernel
theorem dX7_allCheats_2 : decode cX7_allCheats 2 = .ok (.iconst 0, 1) := by decide +kernel
theorem dX7_allCheats_3 : decode cX7_allCheats 3 = .ok (.istore_n 2, 1) := by decide +kernel
theorem dX7_allCheats_4 : decode cX7_allCheats 4 = .ok (.iload_n 2, 1) := by decide +kernel
theorem dX7_allCheats_5 : decode cX7_allCheats 5 = .ok (.aload_n 0, 1) := by decide +kernel
theorem dX7_allCheats_6 : decode cX7_allCheats 6 = .ok (.getfield 75, 3) := by decide +kernel
theorem dX7_allCheats_9 : decode cX7_allCheats 9 = .ok (.if_icmp .ge 29, 3) := by decide +kernel
theorem dX7_allCheats_12 : decode cX7_allCheats 12 = .ok (.iload_n 1, 1) := by decide +kernel
theorem dX7_allCheats_13 : decode cX7_allCheats 13 = .ok (.aload_n 0, 1) := by decide +kernel
theorem dX7_allCheats_14 : decode cX7_allCheats 14 = .ok (.getfield 23, 3) := by decide +kernel
theorem dX7_allCheats_17 : decode cX7_allCheats 17 = .ok (.iload_n 2, 1) := by decide +kernel
theorem dX7_allCheats_18 : decode cX7_allCheats 18 = .ok (.aaload, 1) := by decide +kernel
theorem dX7_allCheats_19 : decode cX7_allCheats 19 = .ok (.getfield 125, 3) := by decide +kernel
theorem dX7_allCheats_22 : decode cX7_allCheats 22 = .ok (.ifCond .eq 7, 3) := by decide +kernel
theorem dX7_allCheats_25 : decode cX7_allCheats 25 = .ok (.iconst 1, 1) := by decide +kernel
theorem dX7_allCheats_26 : decode cX7_allCheats 26 = .ok (.goto 4, 3) := by decide +kernel
theorem dX7_allCheats_29 : decode cX7_allCheats 29 = .ok (.iconst 0, 1) := by decide +kernel
theorem dX7_allCheats_30 : decode cX7_allCheats 30 = .ok (.iadd, 1) := by decide +kernel
theorem dX7_allCheats_31 : decode cX7_allCheats 31 = .ok (.istore_n 1, 1) := by decide +kernel
theorem dX7_allCheats_32 : decode cX7_allCheats 32 = .ok (.iinc 2 1, 3) := by decide +kernel
theorem dX7_allCheats_35 : decode cX7_allCheats 35 = .ok (.goto (-31), 3) := by decide +kernel
theorem dX7_allCheats_38 : decode cX7_allCheats 38 = .ok (.iload_n 1, 1) := by decide +kernel
theorem dX7_allCheats_39 : decode cX7_allCheats 39 = .ok (.ireturn, 1) := by decide +kernel
theorem k_X7_allCheats_f75 : Cond.fieldLink RX7 75 "TideLots$Shore" "fisherCount" "I" ∈ wsX7_allCheats := by decide +kernel
theorem i_X7_allCheats_X7 : ∀ w ∈ u_ws RX7 TX7 17, w ∈ wsX7_allCheats := by decide +kernel
theorem k_X7_allCheats_f23 : Cond.fieldLink RX7 23 "TideLots$Shore" "fishers" "[LTideLots$Fisher;" ∈ wsX7_allCheats := by decide +kernel
theorem k_X7_allCheats_f125 : Cond.fieldLink RX7 125 "TideLots$Fisher" "isCheat" "Z" ∈ wsX7_allCheats := by decide +kernel
theorem i_X7_allCheats_X1 : ∀ w ∈ u_ws RX1 TX1 11, w ∈ wsX7_allCheats := by decide +kernel
abbrev rX7_allCheats : Room := { frames := 0, cells := 0, slots := 0, locals := 0 }
noncomputable def b_X7_allCheats_30 (M : gMem) (x0 : Nat) (x2 : Int32) (s0 : Int32) (s1 : Int32) : Option ((gMem × Int32 × Int32) ⊕ (Int32 × gMem)) :=
  some (.inl (M, (s0 + s1), (x2 + (1 : Int32))))
noncomputable def bb_X7_allCheats_4 (M : gMem) (x0 : Nat) (x1 : Int32) (x2 : Int32) : Option ((gMem × Int32 × Int32) ⊕ (Int32 × gMem)) :=
  ck (mT M x0 = 7) <| (if (mI M x0 3) ≤ x2 then oI (some (x1, M)) else dr ((mR M x0 7)) fun a3 => ck (mT M a3 = 24) <| ck (inb x2 (mL M a3)) <| dr ((mR M a3 x2.toNatClampNeg)) fun a6 => ck (mT M a6 = 1) <| (if (mI M a6 9) = 0 then b_X7_allCheats_30 M x0 x2 x1 ((0 : Int32)) else b_X7_allCheats_30 M x0 x2 x1 ((1 : Int32))))
noncomputable def lp_X7_allCheats_4 (M : gMem) (x0 : Nat) (x1 : Int32) (x2 : Int32) : Option (Int32 × gMem) :=
  lp (fun (q : gMem × Int32 × Int32) => bb_X7_allCheats_4 q.1 x0 q.2.1 q.2.2) (M, x1, x2)
noncomputable def b_X7_allCheats_0 (M : gMem) (x0 : Nat) : Option (Int32 × gMem) :=
  lp_X7_allCheats_4 M x0 ((0 : Int32)) ((0 : Int32))
noncomputable def f_X7_allCheats (M : gMem) (x0 : Nat) : Option (Int32 × gMem) :=
  b_X7_allCheats_0 M x0
set_option maxHeartbeats 4000000 in
set_option maxRecDepth 100000 in
theorem t_X7_allCheats_30 (X : gX p s m args meth c D cy B (gSt Z B H0) RX7 cX7_allCheats wsX7_allCheats 3) (hr : meth.sig.returnType = (some .int)) {Q : State → Prop} : ∀ (M : gMem) (x0 : Nat) (x2 : Int32) (s0 : Int32) (s1 : Int32) (z : (gMem × Int32 × Int32) ⊕ (Int32 × gMem)), b_X7_allCheats_30 M x0 x2 s0 s1 = some z → (Sum.elim (fun (q : gMem × Int32 × Int32) => gGo p l e rX7_allCheats s m args below meth c D cy B H0 3 0 0 Q 4 [(0, vR (some x0)), (1, vI q.2.1), (2, vI q.2.2)] [] q.1) (fun (r : Int32 × gMem) => Q = gMQ below D cy B H0 args s 0 0 (some (vI r.1)) r.2)) z → gGo p l e rX7_allCheats s m args below meth c D cy B H0 3 0 0 Q 30 [(0, vR (some x0)), (2, vI x2)] [vI s1, vI s0] M := by
  intro M x0 x2 s0 s1 z hf hK
  unfold b_X7_allCheats_30 at hf
  refine g_iadd X dX7_allCheats_30 ?_
  refine g_istore_n (lv' := [(1, vI (s0 + s1)), (0, vR (some x0)), (2, vI x2)]) X dX7_allCheats_31 rfl (by decide) rfl ?_
  refine g_iinc (v := (1 : Int32)) (lv' := [(2, vI (x2 + (1 : Int32))), (1, vI (s0 + s1)), (0, vR (some x0))]) X dX7_allCheats_32 rfl (by decide) (by decide) rfl ?_
  refine g_goto (tgt := 4) X dX7_allCheats_35 (by decide) ?_
  cases hf
  refine g_sub (lvsub_of _ _ [2, 1, 0] rfl) ?_
  exact hK
set_option maxHeartbeats 4000000 in
set_option maxRecDepth 100000 in
theorem tb_X7_allCheats_4 (X : gX p s m args meth c D cy B (gSt Z B H0) RX7 cX7_allCheats wsX7_allCheats 3) (hr : meth.sig.returnType = (some .int)) {Q : State → Prop} : ∀ (M : gMem) (x0 : Nat) (x1 : Int32) (x2 : Int32) (z : (gMem × Int32 × Int32) ⊕ (Int32 × gMem)), bb_X7_allCheats_4 M x0 x1 x2 = some z → (Sum.elim (fun (q : gMem × Int32 × Int32) => gGo p l e rX7_allCheats s m args below meth c D cy B H0 3 0 0 Q 4 [(0, vR (some x0)), (1, vI q.2.1), (2, vI q.2.2)] [] q.1) (fun (r : Int32 × gMem) => Q = gMQ below D cy B H0 args s 0 0 (some (vI r.1)) r.2)) z → gGo p l e rX7_allCheats s m args below meth c D cy B H0 3 0 0 Q 4 [(0, vR (some x0)), (1, vI x1), (2, vI x2)] [] M := by
  intro M x0 x1 x2 z hf hK
  unfold bb_X7_allCheats_4 at hf
  refine g_iload_n X dX7_allCheats_4 rfl rfl ?_
  refine g_aload_n X dX7_allCheats_5 rfl rfl ?_
  obtain ⟨hT1, hf⟩ := ck_e hf
  refine g_get (ci := 6) (v := vI (mI M x0 3)) 3 X cdX7 i_X7_allCheats_X7 (by decide) k_X7_allCheats_f75 rfl dX7_allCheats_6 rfl hT1 rfl ?_
  refine g_icmp_ge (tgt := 38) X dX7_allCheats_9 (by decide) (fun hc => ?_) (fun hc => ?_)
  · have hf := ife_t hc hf
    refine g_iload_n X dX7_allCheats_38 rfl rfl ?_
    obtain ⟨w2, hw2, hz2⟩ := oI_e hf
    subst hz2
    have hf := hw2
    cases hf
    refine g_eqQ hK ?_
    exact g_iret X hr dX7_allCheats_39
  · have hf := ife_f hc hf
    refine g_iload_n X dX7_allCheats_12 rfl rfl ?_
    refine g_aload_n X dX7_allCheats_13 rfl rfl ?_
    refine g_get (ci := 6) (v := vR (mR M x0 7)) 7 X cdX7 i_X7_allCheats_X7 (by decide) k_X7_allCheats_f23 rfl dX7_allCheats_14 rfl hT1 rfl ?_
    refine g_iload_n X dX7_allCheats_17 rfl rfl ?_
    obtain ⟨a3, ha3, hf⟩ := dr_e hf
    obtain ⟨hT4, hf⟩ := ck_e hf
    obtain ⟨hg5, hf⟩ := ck_e hf
    refine g_aald (t0 := 4) X dX7_allCheats_18 ha3 hT4 (by decide) rfl hg5 ?_
    obtain ⟨a6, ha6, hf⟩ := dr_e hf
    obtain ⟨hT7, hf⟩ := ck_e hf
    refine g_get (ci := 0) (v := vI (mI M a6 9)) 9 X cdX1 i_X7_allCheats_X1 (by decide) k_X7_allCheats_f125 rfl dX7_allCheats_19 ha6 hT7 rfl ?_
    refine g_if_eq (tgt := 29) X dX7_allCheats_22 (by decide) (fun hc => ?_) (fun hc => ?_)
    · have hf := ife_t hc hf
      refine g_iconst (v := (0 : Int32)) X dX7_allCheats_29 (by decide) ?_
      refine g_sub (lvsub_of _ _ [0, 2] rfl) ?_
      exact t_X7_allCheats_30 X hr _ _ _ _ _ _ hf hK
    · have hf := ife_f hc hf
      refine g_iconst (v := (1 : Int32)) X dX7_allCheats_25 (by decide) ?_
      refine g_goto (tgt := 30) X dX7_allCheats_26 (by decide) ?_
      refine g_sub (lvsub_of _ _ [0, 2] rfl) ?_
      exact t_X7_allCheats_30 X hr _ _ _ _ _ _ hf hK
set_option maxHeartbeats 4000000 in
set_option maxRecDepth 100000 in
theorem tl_X7_allCheats_4 (X : gX p s m args meth c D cy B (gSt Z B H0) RX7 cX7_allCheats wsX7_allCheats 3) (hr : meth.sig.returnType = (some .int)) {Q : State → Prop} : ∀ (M : gMem) (x0 : Nat) (x1 : Int32) (x2 : Int32) (z : Int32 × gMem), lp_X7_allCheats_4 M x0 x1 x2 = some z → (fun (r : Int32 × gMem) => Q = gMQ below D cy B H0 args s 0 0 (some (vI r.1)) r.2) z → gGo p l e rX7_allCheats s m args below meth c D cy B H0 3 0 0 Q 4 [(0, vR (some x0)), (1, vI x1), (2, vI x2)] [] M := by
  intro M x0 x1 x2 z hf hK
  refine lp_ind (P := (fun (q : gMem × Int32 × Int32) (z : Int32 × gMem) => (fun (r : Int32 × gMem) => Q = gMQ below D cy B H0 args s 0 0 (some (vI r.1)) r.2) z → gGo p l e rX7_allCheats s m args below meth c D cy B H0 3 0 0 Q 4 [(0, vR (some x0)), (1, vI q.2.1), (2, vI q.2.2)] [] q.1)) (fun q z hq => ?_) _ _ hf hK
  intro hK
  obtain ⟨w, hw, hm⟩ := hq
  refine tb_X7_allCheats_4 X hr _ _ _ _ w hw ?_
  cases w with
  | inl a => exact hm hK
  | inr b => cases hm; exact hK
set_option maxHeartbeats 4000000 in
set_option maxRecDepth 100000 in
theorem t_X7_allCheats_0 (X : gX p s m args meth c D cy B (gSt Z B H0) RX7 cX7_allCheats wsX7_allCheats 3) (hr : meth.sig.returnType = (some .int)) {Q : State → Prop} : ∀ (M : gMem) (x0 : Nat) (z : Int32 × gMem), b_X7_allCheats_0 M x0 = some z → (fun (r : Int32 × gMem) => Q = gMQ below D cy B H0 args s 0 0 (some (vI r.1)) r.2) z → gGo p l e rX7_allCheats s m args below meth c D cy B H0 3 0 0 Q 0 [(0, vR (some x0))] [] M := by
  intro M x0 z hf hK
  unfold b_X7_allCheats_0 at hf
  refine g_iconst (v := (0 : Int32)) X dX7_allCheats_0 (by decide) ?_
  refine g_istore_n (lv' := [(1, vI (0 : Int32)), (0, vR (some x0))]) X dX7_allCheats_1 rfl (by decide) rfl ?_
  refine g_iconst (v := (0 : Int32)) X dX7_allCheats_2 (by decide) ?_
  refine g_istore_n (lv' := [(2, vI (0 : Int32)), (1, vI (0 : Int32)), (0, vR (some x0))]) X dX7_allCheats_3 rfl (by decide) rfl ?_
  refine g_sub (lvsub_of _ _ [2, 1, 0] rfl) ?_
  exact tl_X7_allCheats_4 X hr _ _ _ _ _ hf hK
set_option maxHeartbeats 4000000 in
set_option maxRecDepth 100000 in
theorem m_X7_allCheats (l : Launch) {D : va_G} {cy : Nat → ClassId} {B : Nat} {H0 : Heap} {Z : Nat → Nat} {M M1 : gMem} {x0 : Nat} {r : Int32} (hf : f_X7_allCheats M x0 = some (r, M1)) : Met l yX7_allCheats wsX7_allCheats rX7_allCheats (va_Pc (Value.ref x0 :: List.map gv []) (gPre D cy B H0 (gSt Z B H0) M)) (gQ D cy B H0 (some (vI r)) M1) 0 0 (gA B) := by
  refine Met.ofW (cc := cX7_allCheats) (maxL := 3) (ret := (some .int)) (by decide) rfl ?_
  intro p e s m args below meth c s₁ Bd hml hv
  obtain ⟨rfl, hW, hKK, hFs⟩ := hv
  have X : gX p s m _ meth c D cy B (gSt Z B H0) RX7 cX7_allCheats wsX7_allCheats 3 := ⟨Bd.exec, Bd.bytes, atoms_spec (ws := wsX7_allCheats) Bd.pre, findClass_of_methodNamed Bd.named, hml, hKK, by rw [hW.1]; exact hW.2.1, Bd.notSynchronized, hFs⟩
  have hr := Bd.returns
  have hl := lv_entry ([.ref x0]) (n := 3) (Nat.le_of_ble_eq_true rfl)
  show W p l e rX7_allCheats s m _ below meth c s.heap [] 0 0 _ (entryFrame m ([.ref x0] : List Value).toArray 3)
  rw [lg_entry_eq]
  generalize (lg_sl ([.ref x0]) ++ List.replicate (3 - (lg_sl ([.ref x0])).length) Slot.unset).toArray = ls at hl ⊢
  have hl : lv_has ls 3 (List.map gq [(0, vR (some x0))]) := hl
  exact t_X7_allCheats_0 X hr _ _ _ hf rfl s.heap [] ls hW va_S.rf (lv_has_sub hl (lvsub_of _ _ [0] rfl))
/-! ## TideLots$Shore.storeGap()I -/
theorem dX7_storeGap_0 : decode cX7_storeGap 0 = .ok (.aload_n 0, 1) := by decide +kernel
theorem dX7_storeGap_1 : decode cX7_storeGap 1 = .ok (.getfield 75, 3) := by decide +kernel
theorem dX7_storeGap_4 : decode cX7_storeGap 4 = .ok (.ifCond .ne 5, 3) := by decide +kernel
theorem dX7_storeGap_7 : decode cX7_storeGap 7 = .ok (.iconst 0, 1) := by decide +kernel
theorem dX7_storeGap_8 : decode cX7_storeGap 8 = .ok (.ireturn, 1) := by decide +kernel
theorem dX7_storeGap_9 : decode cX7_storeGap 9 = .ok (.aload_n 0, 1) := by decide +kernel
theorem dX7_storeGap_10 : decode cX7_storeGap 10 = .ok (.getfield 23, 3) := by decide +kernel
theorem dX7_storeGap_13 : decode cX7_storeGap 13 = .ok (.iconst 0, 1) := by decide +kernel
theorem dX7_storeGap_14 : decode cX7_storeGap 14 = .ok (.aaload, 1) := by decide +kernel
theorem dX7_storeGap_15 : decode cX7_storeGap 15 = .ok (.getfield 116, 3) := by decide +kernel
theorem dX7_storeGap_18 : decode cX7_storeGap 18 = .ok (.istore_n 1, 1) := by decide +kernel
theorem dX7_storeGap_19 : decode cX7_storeGap 19 = .ok (.iload_n 1, 1) := by decide +kernel
theorem dX7_storeGap_20 : decode cX7_storeGap 20 = .ok (.istore_n 2, 1) := by decide +kernel
theorem dX7_storeGap_21 : decode cX7_storeGap 21 = .ok (.iconst 1, 1) := by decide +kernel
theorem dX7_storeGap_22 : decode cX7_storeGap 22 = .ok (.istore_n 3, 1) := by decide +kernel
theorem dX7_storeGap_23 : decode cX7_storeGap 23 = .ok (.iload_n 3, 1) := by decide +kernel
theorem dX7_storeGap_24 : decode cX7_storeGap 24 = .ok (.aload_n 0, 1) := by decide +kernel
theorem dX7_storeGap_25 : decode cX7_storeGap 25 = .ok (.getfield 75, 3) := by decide +kernel
theorem dX7_storeGap_28 : decode cX7_storeGap 28 = .ok (.if_icmp .ge 37, 3) := by decide +kernel
theorem dX7_storeGap_31 : decode cX7_storeGap 31 = .ok (.iload_n 1, 1) := by decide +kernel
theorem dX7_storeGap_32 : decode cX7_storeGap 32 = .ok (.aload_n 0, 1) := by decide +kernel
theorem dX7_storeGap_33 : decode cX7_storeGap 33 = .ok (.getfield 23, 3) := by decide +kernel
theorem dX7_storeGap_36 : decode cX7_storeGap 36 = .ok (.iload_n 3, 1) := by decide +kernel
theorem dX7_storeGap_37 : decode cX7_storeGap 37 = .ok (.aaload, 1) := by decide +kernel
theorem dX7_storeGap_38 : decode cX7_storeGap 38 = .ok (.getfield 116, 3) := by decide +kernel
theorem dX7_storeGap_41 : decode cX7_storeGap 41 = .ok (.invokestatic 87, 3) := by decide +kernel
theorem dX7_storeGap_44 : decode cX7_storeGap 44 = .ok (.istore_n 1, 1) := by decide +kernel
theorem dX7_storeGap_45 : decode cX7_storeGap 45 = .ok (.iload_n 2, 1) := by decide +kernel
theorem dX7_storeGap_46 : decode cX7_storeGap 46 = .ok (.aload_n 0, 1) := by decide +kernel
theorem dX7_storeGap_47 : decode cX7_storeGap 47 = .ok (.getfield 23, 3) := by decide +kernel
theorem dX7_storeGap_50 : decode cX7_storeGap 50 = .ok (.iload_n 3, 1) := by decide +kernel
theorem dX7_storeGap_51 : decode cX7_storeGap 51 = .ok (.aaload, 1) := by decide +kernel
theorem dX7_storeGap_52 : decode cX7_storeGap 52 = .ok (.getfield 116, 3) := by decide +kernel
theorem dX7_storeGap_55 : decode cX7_storeGap 55 = .ok (.invokestatic 129, 3) := by decide +kernel
theorem dX7_storeGap_58 : decode cX7_storeGap 58 = .ok (.istore_n 2, 1) := by decide +kernel
theorem dX7_storeGap_59 : decode cX7_storeGap 59 = .ok (.iinc 3 1, 3) := by decide +kernel
theorem dX7_storeGap_62 : decode cX7_storeGap 62 = .ok (.goto (-39), 3) := by decide +kernel
theorem dX7_storeGap_65 : decode cX7_storeGap 65 = .ok (.iload_n 2, 1) := by decide +kernel
theorem dX7_storeGap_66 : decode cX7_storeGap 66 = .ok (.iload_n 1, 1) := by decide +kernel
theorem dX7_storeGap_67 : decode cX7_storeGap 67 = .ok (.isub, 1) := by decide +kernel
theorem dX7_storeGap_68 : decode cX7_storeGap 68 = .ok (.ireturn, 1) := by decide +kernel
theorem k_X7_storeGap_f75 : Cond.fieldLink RX7 75 "TideLots$Shore" "fisherCount" "I" ∈ wsX7_storeGap := by decide +kernel
theorem i_X7_storeGap_X7 : ∀ w ∈ u_ws RX7 TX7 17, w ∈ wsX7_storeGap := by decide +kernel
theorem k_X7_storeGap_f23 : Cond.fieldLink RX7 23 "TideLots$Shore" "fishers" "[LTideLots$Fisher;" ∈ wsX7_storeGap := by decide +kernel
theorem k_X7_storeGap_f116 : Cond.fieldLink RX7 116 "TideLots$Fisher" "store" "I" ∈ wsX7_storeGap := by decide +kernel
theorem i_X7_storeGap_X1 : ∀ w ∈ u_ws RX1 TX1 11, w ∈ wsX7_storeGap := by decide +kernel
theorem k_X7_storeGap_m87 : Cond.methodLink RX7 87 Lib.Math.min.name ∈ wsX7_storeGap := by decide +kernel
theorem k_X7_storeGap_mmins : Cond.static Lib.Math.min.name ∈ wsX7_storeGap := by decide +kernel
theorem k_X7_storeGap_mi : Cond.initialized "java/lang/Math" ∈ wsX7_storeGap := by decide +kernel
theorem k_X7_storeGap_mminc : Cond.code Lib.Math.min.name Lib.Math.min.code 2 (some .int) ∈ wsX7_storeGap := by decide +kernel
theorem k_X7_storeGap_m129 : Cond.methodLink RX7 129 Lib.Math.max.name ∈ wsX7_storeGap := by decide +kernel
theorem k_X7_storeGap_mmaxs : Cond.static Lib.Math.max.name ∈ wsX7_storeGap := by decide +kernel
theorem k_X7_storeGap_mmaxc : Cond.code Lib.Math.max.name Lib.Math.max.code 2 (some .int) ∈ wsX7_storeGap := by decide +kernel
abbrev rX7_storeGap : Room := { frames := 1, cells := 0, slots := 0, locals := 13 }
noncomputable def bb_X7_storeGap_23 (M : gMem) (x0 : Nat) (x1 : Int32) (x2 : Int32) (x3 : Int32) : Option ((gMem × Int32 × Int32 × Int32) ⊕ (Int32 × gMem)) :=
  ck (mT M x0 = 7) <| (if (mI M x0 3) ≤ x3 then oI (some ((x2 - x1), M)) else dr ((mR M x0 7)) fun a3 => ck (mT M a3 = 24) <| ck (inb x3 (mL M a3)) <| dr ((mR M a3 x3.toNatClampNeg)) fun a6 => ck (mT M a6 = 1) <| ck (inb x3 (mL M a3)) <| some (.inl (M, (imin x1 ((mI M a6 4))), (imax x2 ((mI M a6 4))), (x3 + (1 : Int32)))))
noncomputable def lp_X7_storeGap_23 (M : gMem) (x0 : Nat) (x1 : Int32) (x2 : Int32) (x3 : Int32) : Option (Int32 × gMem) :=
  lp (fun (q : gMem × Int32 × Int32 × Int32) => bb_X7_storeGap_23 q.1 x0 q.2.1 q.2.2.1 q.2.2.2) (M, x1, x2, x3)
noncomputable def b_X7_storeGap_0 (M : gMem) (x0 : Nat) : Option (Int32 × gMem) :=
  ck (mT M x0 = 7) <| (if (mI M x0 3) = 0 then some ((0 : Int32), M) else dr ((mR M x0 7)) fun a10 => ck (mT M a10 = 24) <| ck (inb (0 : Int32) (mL M a10)) <| dr ((mR M a10 ((0 : Int32)).toNatClampNeg)) fun a13 => ck (mT M a13 = 1) <| lp_X7_storeGap_23 M x0 ((mI M a13 4)) ((mI M a13 4)) ((1 : Int32)))
noncomputable def f_X7_storeGap (M : gMem) (x0 : Nat) : Option (Int32 × gMem) :=
  b_X7_storeGap_0 M x0
set_option maxHeartbeats 4000000 in
set_option maxRecDepth 100000 in
theorem tb_X7_storeGap_23 (X : gX p s m args meth c D cy B (gSt Z B H0) RX7 cX7_storeGap wsX7_storeGap 4) (hr : meth.sig.returnType = (some .int)) {Q : State → Prop} : ∀ (M : gMem) (x0 : Nat) (x1 : Int32) (x2 : Int32) (x3 : Int32) (z : (gMem × Int32 × Int32 × Int32) ⊕ (Int32 × gMem)), bb_X7_storeGap_23 M x0 x1 x2 x3 = some z → (Sum.elim (fun (q : gMem × Int32 × Int32 × Int32) => gGo p l e rX7_storeGap s m args below meth c D cy B H0 4 0 0 Q 23 [(0, vR (some x0)), (1, vI q.2.1), (2, vI q.2.2.1), (3, vI q.2.2.2)] [] q.1) (fun (r : Int32 × gMem) => Q = gMQ below D cy B H0 args s 0 0 (some (vI r.1)) r.2)) z → gGo p l e rX7_storeGap s m args below meth c D cy B H0 4 0 0 Q 23 [(0, vR (some x0)), (1, vI x1), (2, vI x2), (3, vI x3)] [] M := by
  intro M x0 x1 x2 x3 z hf hK
  unfold bb_X7_storeGap_23 at hf
  refine g_iload_n X dX7_storeGap_23 rfl rfl ?_
  refine g_aload_n X dX7_storeGap_24 rfl rfl ?_
  obtain ⟨hT1, hf⟩ := ck_e hf
  refine g_get (ci := 6) (v := vI (mI M x0 3)) 3 X cdX7 i_X7_storeGap_X7 (by decide) k_X7_storeGap_f75 rfl dX7_storeGap_25 rfl hT1 rfl ?_
  refine g_icmp_ge (tgt := 65) X dX7_storeGap_28 (by decide) (fun hc => ?_) (fun hc => ?_)
  · have hf := ife_t hc hf
    refine g_iload_n X dX7_storeGap_65 rfl rfl ?_
    refine g_iload_n X dX7_storeGap_66 rfl rfl ?_
    refine g_isub X dX7_storeGap_67 ?_
    obtain ⟨w2, hw2, hz2⟩ := oI_e hf
    subst hz2
    have hf := hw2
    cases hf
    refine g_eqQ hK ?_
    exact g_iret X hr dX7_storeGap_68
  · have hf := ife_f hc hf
    refine g_iload_n X dX7_storeGap_31 rfl rfl ?_
    refine g_aload_n X dX7_storeGap_32 rfl rfl ?_
    refine g_get (ci := 6) (v := vR (mR M x0 7)) 7 X cdX7 i_X7_storeGap_X7 (by decide) k_X7_storeGap_f23 rfl dX7_storeGap_33 rfl hT1 rfl ?_
    refine g_iload_n X dX7_storeGap_36 rfl rfl ?_
    obtain ⟨a3, ha3, hf⟩ := dr_e hf
    obtain ⟨hT4, hf⟩ := ck_e hf
    obtain ⟨hg5, hf⟩ := ck_e hf
    refine g_aald (t0 := 4) X dX7_storeGap_37 ha3 hT4 (by decide) rfl hg5 ?_
    obtain ⟨a6, ha6, hf⟩ := dr_e hf
    obtain ⟨hT7, hf⟩ := ck_e hf
    refine g_get (ci := 0) (v := vI (mI M a6 4)) 4 X cdX1 i_X7_storeGap_X1 (by decide) k_X7_storeGap_f116 rfl dX7_storeGap_38 ha6 hT7 rfl ?_
    refine g_min X k_X7_storeGap_m87 k_X7_storeGap_mmins k_X7_storeGap_mi k_X7_storeGap_mminc (Nat.le_of_ble_eq_true rfl) (Nat.le_of_ble_eq_true rfl) ⟨by decide, by decide⟩ dX7_storeGap_41 ?_
    refine g_istore_n (lv' := [(1, vI (imin x1 ((mI M a6 4)))), (0, vR (some x0)), (2, vI x2), (3, vI x3)]) X dX7_storeGap_44 rfl (by decide) rfl ?_
    refine g_iload_n X dX7_storeGap_45 rfl rfl ?_
    refine g_aload_n X dX7_storeGap_46 rfl rfl ?_
    refine g_get (ci := 6) (v := vR (mR M x0 7)) 7 X cdX7 i_X7_storeGap_X7 (by decide) k_X7_storeGap_f23 rfl dX7_storeGap_47 rfl hT1 rfl ?_
    refine g_iload_n X dX7_storeGap_50 rfl rfl ?_
    obtain ⟨hg8, hf⟩ := ck_e hf
    refine g_aald (t0 := 4) X dX7_storeGap_51 ha3 hT4 (by decide) rfl hg8 ?_
    refine g_get (ci := 0) (v := vI (mI M a6 4)) 4 X cdX1 i_X7_storeGap_X1 (by decide) k_X7_storeGap_f116 rfl dX7_storeGap_52 ha6 hT7 rfl ?_
    refine g_max X k_X7_storeGap_m129 k_X7_storeGap_mmaxs k_X7_storeGap_mi k_X7_storeGap_mmaxc (Nat.le_of_ble_eq_true rfl) (Nat.le_of_ble_eq_true rfl) ⟨by decide, by decide⟩ dX7_storeGap_55 ?_
    refine g_istore_n (lv' := [(2, vI (imax x2 ((mI M a6 4)))), (1, vI (imin x1 ((mI M a6 4)))), (0, vR (some x0)), (3, vI x3)]) X dX7_storeGap_58 rfl (by decide) rfl ?_
    refine g_iinc (v := (1 : Int32)) (lv' := [(3, vI (x3 + (1 : Int32))), (2, vI (imax x2 ((mI M a6 4)))), (1, vI (imin x1 ((mI M a6 4)))), (0, vR (some x0))]) X dX7_storeGap_59 rfl (by decide) (by decide) rfl ?_
    refine g_goto (tgt := 23) X dX7_storeGap_62 (by decide) ?_
    cases hf
    refine g_sub (lvsub_of _ _ [3, 2, 1, 0] rfl) ?_
    exact hK
set_option maxHeartbeats 4000000 in
set_option maxRecDepth 100000 in
theorem tl_X7_storeGap_23 (X : gX p s m args meth c D cy B (gSt Z B H0) RX7 cX7_storeGap wsX7_storeGap 4) (hr : meth.sig.returnType = (some .int)) {Q : State → Prop} : ∀ (M : gMem) (x0 : Nat) (x1 : Int32) (x2 : Int32) (x3 : Int32) (z : Int32 × gMem), lp_X7_storeGap_23 M x0 x1 x2 x3 = some z → (fun (r : Int32 × gMem) => Q = gMQ below D cy B H0 args s 0 0 (some (vI r.1)) r.2) z → gGo p l e rX7_storeGap s m args below meth c D cy B H0 4 0 0 Q 23 [(0, vR (some x0)), (1, vI x1), (2, vI x2), (3, vI x3)] [] M := by
  intro M x0 x1 x2 x3 z hf hK
  refine lp_ind (P := (fun (q : gMem × Int32 × Int32 × Int32) (z : Int32 × gMem) => (fun (r : Int32 × gMem) => Q = gMQ below D cy B H0 args s 0 0 (some (vI r.1)) r.2) z → gGo p l e rX7_storeGap s m args below meth c D cy B H0 4 0 0 Q 23 [(0, vR (some x0)), (1, vI q.2.1), (2, vI q.2.2.1), (3, vI q.2.2.2)] [] q.1)) (fun q z hq => ?_) _ _ hf hK
  intro hK
  obtain ⟨w, hw, hm⟩ := hq
  refine tb_X7_storeGap_23 X hr _ _ _ _ _ w hw ?_
  cases w with
  | inl a => exact hm hK
  | inr b => cases hm; exact hK
set_option maxHeartbeats 4000000 in
set_option maxRecDepth 100000 in
theorem t_X7_storeGap_0 (X : gX p s m args meth c D cy B (gSt Z B H0) RX7 cX7_storeGap wsX7_storeGap 4) (hr : meth.sig.returnType = (some .int)) {Q : State → Prop} : ∀ (M : gMem) (x0 : Nat) (z : Int32 × gMem), b_X7_storeGap_0 M x0 = some z → (fun (r : Int32 × gMem) => Q = gMQ below D cy B H0 args s 0 0 (some (vI r.1)) r.2) z → gGo p l e rX7_storeGap s m args below meth c D cy B H0 4 0 0 Q 0 [(0, vR (some x0))] [] M := by
  intro M x0 z hf hK
  unfold b_X7_storeGap_0 at hf
  refine g_aload_n X dX7_storeGap_0 rfl rfl ?_
  obtain ⟨hT9, hf⟩ := ck_e hf
  refine g_get (ci := 6) (v := vI (mI M x0 3)) 3 X cdX7 i_X7_storeGap_X7 (by decide) k_X7_storeGap_f75 rfl dX7_storeGap_1 rfl hT9 rfl ?_
  refine g_if_ne (tgt := 9) X dX7_storeGap_4 (by decide) (fun hc => ?_) (fun hc => ?_)
  · have hf := ife_f hc hf
    refine g_aload_n X dX7_storeGap_9 rfl rfl ?_
    refine g_get (ci := 6) (v := vR (mR M x0 7)) 7 X cdX7 i_X7_storeGap_X7 (by decide) k_X7_storeGap_f23 rfl dX7_storeGap_10 rfl hT9 rfl ?_
    refine g_iconst (v := (0 : Int32)) X dX7_storeGap_13 (by decide) ?_
    obtain ⟨a10, ha10, hf⟩ := dr_e hf
    obtain ⟨hT11, hf⟩ := ck_e hf
    obtain ⟨hg12, hf⟩ := ck_e hf
    refine g_aald (t0 := 4) X dX7_storeGap_14 ha10 hT11 (by decide) rfl hg12 ?_
    obtain ⟨a13, ha13, hf⟩ := dr_e hf
    obtain ⟨hT14, hf⟩ := ck_e hf
    refine g_get (ci := 0) (v := vI (mI M a13 4)) 4 X cdX1 i_X7_storeGap_X1 (by decide) k_X7_storeGap_f116 rfl dX7_storeGap_15 ha13 hT14 rfl ?_
    refine g_istore_n (lv' := [(1, vI (mI M a13 4)), (0, vR (some x0))]) X dX7_storeGap_18 rfl (by decide) rfl ?_
    refine g_iload_n X dX7_storeGap_19 rfl rfl ?_
    refine g_istore_n (lv' := [(2, vI (mI M a13 4)), (1, vI (mI M a13 4)), (0, vR (some x0))]) X dX7_storeGap_20 rfl (by decide) rfl ?_
    refine g_iconst (v := (1 : Int32)) X dX7_storeGap_21 (by decide) ?_
    refine g_istore_n (lv' := [(3, vI (1 : Int32)), (2, vI (mI M a13 4)), (1, vI (mI M a13 4)), (0, vR (some x0))]) X dX7_storeGap_22 rfl (by decide) rfl ?_
    refine g_sub (lvsub_of _ _ [3, 2, 1, 0] rfl) ?_
    exact tl_X7_storeGap_23 X hr _ _ _ _ _ _ hf hK
  · have hf := ife_t hc hf
    refine g_iconst (v := (0 : Int32)) X dX7_storeGap_7 (by decide) ?_
    cases hf
    refine g_eqQ hK ?_
    exact g_iret X hr dX7_storeGap_8
set_option maxHeartbeats 4000000 in
set_option maxRecDepth 100000 in
theorem m_X7_storeGap (l : Launch) {D : va_G} {cy : Nat → ClassId} {B : Nat} {H0 : Heap} {Z : Nat → Nat} {M M1 : gMem} {x0 : Nat} {r : Int32} (hf : f_X7_storeGap M x0 = some (r, M1)) : Met l yX7_storeGap wsX7_storeGap rX7_storeGap (va_Pc (Value.ref x0 :: List.map gv []) (gPre D cy B H0 (gSt Z B H0) M)) (gQ D cy B H0 (some (vI r)) M1) 0 0 (gA B) := by
  refine Met.ofW (cc := cX7_storeGap) (maxL := 4) (ret := (some .int)) (by decide) rfl ?_
  intro p e s m args below meth c s₁ Bd hml hv
  obtain ⟨rfl, hW, hKK, hFs⟩ := hv
  have X : gX p s m _ meth c D cy B (gSt Z B H0) RX7 cX7_storeGap wsX7_storeGap 4 := ⟨Bd.exec, Bd.bytes, atoms_spec (ws := wsX7_storeGap) Bd.pre, findClass_of_methodNamed Bd.named, hml, hKK, by rw [hW.1]; exact hW.2.1, Bd.notSynchronized, hFs⟩
  have hr := Bd.returns
  have hl := lv_entry ([.ref x0]) (n := 4) (Nat.le_of_ble_eq_true rfl)
  show W p l e rX7_storeGap s m _ below meth c s.heap [] 0 0 _ (entryFrame m ([.ref x0] : List Value).toArray 4)
  rw [lg_entry_eq]
  generalize (lg_sl ([.ref x0]) ++ List.replicate (4 - (lg_sl ([.ref x0])).length) Slot.unset).toArray = ls at hl ⊢
  have hl : lv_has ls 4 (List.map gq [(0, vR (some x0))]) := hl
  exact t_X7_storeGap_0 X hr _ _ _ hf rfl s.heap [] ls hW va_S.rf (lv_has_sub hl (lvsub_of _ _ [0] rfl))
/-! ## TideLots$Shore.drawLots()I -/
theorem dX7_drawLots_0 : decode cX7_drawLots 0 = .ok (.aload_n 0, 1) := by decide +kernel
theorem dX7_drawLots_1 : decode cX7_drawLots 1 = .ok (.getfield 9, 3) := by decide +kernel
theorem dX7_drawLots_4 : decode cX7_drawLots 4 = .ok (.istore_n 1, 1) := by decide +kernel
theorem dX7_drawLots_5 : decode cX7_drawLots 5 = .ok (.iconst 0, 1) := by decide +kernel
theorem dX7_drawLots_6 : decode cX7_drawLots 6 = .ok (.istore_n 2, 1) := by decide +kernel
theorem dX7_drawLots_7 : decode cX7_drawLots 7 = .ok (.iload_n 2, 1) := by decide +kernel
theorem dX7_drawLots_8 : decode cX7_drawLots 8 = .ok (.aload_n 0, 1) := by decide +kernel
theorem dX7_drawLots_9 : decode cX7_drawLots 9 = .ok (.getfield 75, 3) := by decide +kernel
theorem dX7_drawLots_12 : decode cX7_drawLots 12 = .ok (.if_icmp .ge 16, 3) := by decide +kernel
theorem dX7_drawLots_15 : decode cX7_drawLots 15 = .ok (.aload_n 0, 1) := by decide +kernel
theorem dX7_drawLots_16 : decode cX7_drawLots 16 = .ok (.getfield 50, 3) := by decide +kernel
theorem dX7_drawLots_19 : decode cX7_drawLots 19 = .ok (.iload_n 2, 1) := by decide +kernel
theorem dX7_drawLots_20 : decode cX7_drawLots 20 = .ok (.iload_n 2, 1) := by decide +kernel
theorem dX7_drawLots_21 : decode cX7_drawLots 21 = .ok (.iastore, 1) := by decide +kernel
theorem dX7_drawLots_22 : decode cX7_drawLots 22 = .ok (.iinc 2 1, 3) := by decide +kernel
theorem dX7_drawLots_25 : decode cX7_drawLots 25 = .ok (.goto (-18), 3) := by decide +kernel
theorem dX7_drawLots_28 : decode cX7_drawLots 28 = .ok (.aload_n 0, 1) := by decide +kernel
theorem dX7_drawLots_29 : decode cX7_drawLots 29 = .ok (.getfield 75, 3) := by decide +kernel
theorem dX7_drawLots_32 : decode cX7_drawLots 32 = .ok (.istore_n 2, 1) := by decide +kernel
theorem dX7_drawLots_33 : decode cX7_drawLots 33 = .ok (.iload_n 2, 1) := by decide +kernel
theorem dX7_drawLots_34 : decode cX7_drawLots 34 = .ok (.ifCond .le 73, 3) := by decide +kernel
theorem dX7_drawLots_37 : decode cX7_drawLots 37 = .ok (.iload_n 1, 1) := by decide +kernel
theorem dX7_drawLots_38 : decode cX7_drawLots 38 = .ok (.ldc 132, 2) := by decide +kernel
theorem dX7_drawLots_40 : decode cX7_drawLots 40 = .ok (.imul, 1) := by decide +kernel
theorem dX7_drawLots_41 : decode cX7_drawLots 41 = .ok (.iconst 1, 1) := by decide +kernel
theorem dX7_drawLots_42 : decode cX7_drawLots 42 = .ok (.iadd, 1) := by decide +kernel
theorem dX7_drawLots_43 : decode cX7_drawLots 43 = .ok (.istore_n 1, 1) := by decide +kernel
theorem dX7_drawLots_44 : decode cX7_drawLots 44 = .ok (.iload_n 1, 1) := by decide +kernel
theorem dX7_drawLots_45 : decode cX7_drawLots 45 = .ok (.bipush 16, 2) := by decide +kernel
theorem dX7_drawLots_47 : decode cX7_drawLots 47 = .ok (.iushr, 1) := by decide +kernel
theorem dX7_drawLots_48 : decode cX7_drawLots 48 = .ok (.iload_n 2, 1) := by decide +kernel
theorem dX7_drawLots_49 : decode cX7_drawLots 49 = .ok (.irem, 1) := by decide +kernel
theorem dX7_drawLots_50 : decode cX7_drawLots 50 = .ok (.istore_n 3, 1) := by decide +kernel
theorem dX7_drawLots_51 : decode cX7_drawLots 51 = .ok (.aload_n 0, 1) := by decide +kernel
theorem dX7_drawLots_52 : decode cX7_drawLots 52 = .ok (.getfield 46, 3) := by decide +kernel
theorem dX7_drawLots_55 : decode cX7_drawLots 55 = .ok (.aload_n 0, 1) := by decide +kernel
theorem dX7_drawLots_56 : decode cX7_drawLots 56 = .ok (.getfield 75, 3) := by decide +kernel
theorem dX7_drawLots_59 : decode cX7_drawLots 59 = .ok (.iload_n 2, 1) := by decide +kernel
theorem dX7_drawLots_60 : decode cX7_drawLots 60 = .ok (.isub, 1) := by decide +kernel
theorem dX7_drawLots_61 : decode cX7_drawLots 61 = .ok (.aload_n 0, 1) := by decide +kernel
theorem dX7_drawLots_62 : decode cX7_drawLots 62 = .ok (.getfield 50, 3) := by decide +kernel
theorem dX7_drawLots_65 : decode cX7_drawLots 65 = .ok (.iload_n 3, 1) := by decide +kernel
theorem dX7_drawLots_66 : decode cX7_drawLots 66 = .ok (.iaload, 1) := by decide +kernel
theorem dX7_drawLots_67 : decode cX7_drawLots 67 = .ok (.iastore, 1) := by decide +kernel
theorem dX7_drawLots_68 : decode cX7_drawLots 68 = .ok (.iload_n 3, 1) := by decide +kernel
theorem dX7_drawLots_69 : decode cX7_drawLots 69 = .ok (.istore 4, 2) := by decide +kernel
theorem dX7_drawLots_71 : decode cX7_drawLots 71 = .ok (.iload 4, 2) := by decide +kernel
theorem dX7_drawLots_73 : decode cX7_drawLots 73 = .ok (.iconst 1, 1) := by decide +kernel
theorem dX7_drawLots_74 : decode cX7_drawLots 74 = .ok (.iadd, 1) := by decide +kernel
theorem dX7_drawLots_75 : decode cX7_drawLots 75 = .ok (.iload_n 2, 1) := by decide +kernel
theorem dX7_drawLots_76 : decode cX7_drawLots 76 = .ok (.if_icmp .ge 25, 3) := by decide +kernel
theorem dX7_drawLots_79 : decode cX7_drawLots 79 = .ok (.aload_n 0, 1) := by decide +kernel
theorem dX7_drawLots_80 : decode cX7_drawLots 80 = .ok (.getfield 50, 3) := by decide +kernel
theorem dX7_drawLots_83 : decode cX7_drawLots 83 = .ok (.iload 4, 2) := by decide +kernel
theorem dX7_drawLots_85 : decode cX7_drawLots 85 = .ok (.aload_n 0, 1) := by decide +kernel
theorem dX7_drawLots_86 : decode cX7_drawLots 86 = .ok (.getfield 50, 3) := by decide +kernel
theorem dX7_drawLots_89 : decode cX7_drawLots 89 = .ok (.iload 4, 2) := by decide +kernel
theorem dX7_drawLots_91 : decode cX7_drawLots 91 = .ok (.iconst 1, 1) := by decide +kernel
theorem dX7_drawLots_92 : decode cX7_drawLots 92 = .ok (.iadd, 1) := by decide +kernel
theorem dX7_drawLots_93 : decode cX7_drawLots 93 = .ok (.iaload, 1) := by decide +kernel
theorem dX7_drawLots_94 : decode cX7_drawLots 94 = .ok (.iastore, 1) := by decide +kernel
theorem dX7_drawLots_95 : decode cX7_drawLots 95 = .ok (.iinc 4 1, 3) := by decide +kernel
theorem dX7_drawLots_98 : decode cX7_drawLots 98 = .ok (.goto (-27), 3) := by decide +kernel
theorem dX7_drawLots_101 : decode cX7_drawLots 101 = .ok (.iinc 2 (-1), 3) := by decide +kernel
theorem dX7_drawLots_104 : decode cX7_drawLots 104 = .ok (.goto (-71), 3) := by decide +kernel
theorem dX7_drawLots_107 : decode cX7_drawLots 107 = .ok (.iload_n 1, 1) := by decide +kernel
theorem dX7_drawLots_108 : decode cX7_drawLots 108 = .ok (.ireturn, 1) := by decide +kernel
theorem k_X7_drawLots_f50 : Cond.fieldLink RX7 50 "TideLots$Shore" "row" "[I" ∈ wsX7_drawLots := by decide +kernel
theorem i_X7_drawLots_X7 : ∀ w ∈ u_ws RX7 TX7 17, w ∈ wsX7_drawLots := by decide +kernel
theorem k_X7_drawLots_c132 : Jvm.Cond.constant RX7 132 (69069) ∈ wsX7_drawLots := by decide +kernel
theorem k_X7_drawLots_f46 : Cond.fieldLink RX7 46 "TideLots$Shore" "lots" "[I" ∈ wsX7_drawLots := by decide +kernel
theorem k_X7_drawLots_f75 : Cond.fieldLink RX7 75 "TideLots$Shore" "fisherCount" "I" ∈ wsX7_drawLots := by decide +kernel
theorem k_X7_drawLots_f9 : Cond.fieldLink RX7 9 "TideLots$Shore" "luck" "I" ∈ wsX7_drawLots := by decide +kernel
abbrev rX7_drawLots : Room := { frames := 0, cells := 0, slots := 0, locals := 0 }
noncomputable def bb_X7_drawLots_71 (M : gMem) (x0 : Nat) (x1 : Int32) (x2 : Int32) (x4 : Int32) : Option ((gMem × Int32) ⊕ ((gMem × Int32 × Int32) ⊕ (Int32 × gMem))) :=
  (if x2 ≤ (x4 + (1 : Int32)) then oI (some (.inl (M, x1, (x2 + (-1 : Int32))))) else ck (mT M x0 = 7) <| dr ((mR M x0 12)) fun a3 => ck (mT M a3 = 20) <| ck (inb (x4 + (1 : Int32)) (mL M a3)) <| ck (inb x4 (mL M a3)) <| lw (wI M a3 x4.toNatClampNeg ((mI M a3 ((x4 + (1 : Int32))).toNatClampNeg))) fun M7 => some (.inl (M7, (x4 + (1 : Int32)))))
noncomputable def lp_X7_drawLots_71 (M : gMem) (x0 : Nat) (x1 : Int32) (x2 : Int32) (x4 : Int32) : Option ((gMem × Int32 × Int32) ⊕ (Int32 × gMem)) :=
  lp (fun (q : gMem × Int32) => bb_X7_drawLots_71 q.1 x0 x1 x2 q.2) (M, x4)
noncomputable def bb_X7_drawLots_33 (M : gMem) (x0 : Nat) (x1 : Int32) (x2 : Int32) : Option ((gMem × Int32 × Int32) ⊕ (Int32 × gMem)) :=
  (if x2 ≤ 0 then oI (some (x1, M)) else ck (¬ x2 = 0) <| ck (mT M x0 = 7) <| dr ((mR M x0 12)) fun a13 => ck (mT M a13 = 20) <| ck (inb ((ushr (((x1 * (69069 : Int32)) + (1 : Int32))) ((16 : Int32))) - (ushr (((x1 * (69069 : Int32)) + (1 : Int32))) ((16 : Int32))) / x2 * x2) (mL M a13)) <| dr ((mR M x0 11)) fun a16 => ck (mT M a16 = 20) <| ck (inb ((mI M x0 3) - x2) (mL M a16)) <| lw (wI M a16 (((mI M x0 3) - x2)).toNatClampNeg ((mI M a13 (((ushr (((x1 * (69069 : Int32)) + (1 : Int32))) ((16 : Int32))) - (ushr (((x1 * (69069 : Int32)) + (1 : Int32))) ((16 : Int32))) / x2 * x2)).toNatClampNeg))) fun M19 => lp_X7_drawLots_71 M19 x0 (((x1 * (69069 : Int32)) + (1 : Int32))) x2 (((ushr (((x1 * (69069 : Int32)) + (1 : Int32))) ((16 : Int32))) - (ushr (((x1 * (69069 : Int32)) + (1 : Int32))) ((16 : Int32))) / x2 * x2)))
noncomputable def lp_X7_drawLots_33 (M : gMem) (x0 : Nat) (x1 : Int32) (x2 : Int32) : Option (Int32 × gMem) :=
  lp (fun (q : gMem × Int32 × Int32) => bb_X7_drawLots_33 q.1 x0 q.2.1 q.2.2) (M, x1, x2)
noncomputable def bb_X7_drawLots_7 (M : gMem) (x0 : Nat) (x1 : Int32) (x2 : Int32) : Option ((gMem × Int32) ⊕ (Int32 × gMem)) :=
  ck (mT M x0 = 7) <| (if (mI M x0 3) ≤ x2 then oI (lp_X7_drawLots_33 M x0 x1 ((mI M x0 3))) else dr ((mR M x0 12)) fun a25 => ck (mT M a25 = 20) <| ck (inb x2 (mL M a25)) <| lw (wI M a25 x2.toNatClampNeg x2) fun M28 => some (.inl (M28, (x2 + (1 : Int32)))))
noncomputable def lp_X7_drawLots_7 (M : gMem) (x0 : Nat) (x1 : Int32) (x2 : Int32) : Option (Int32 × gMem) :=
  lp (fun (q : gMem × Int32) => bb_X7_drawLots_7 q.1 x0 x1 q.2) (M, x2)
noncomputable def b_X7_drawLots_0 (M : gMem) (x0 : Nat) : Option (Int32 × gMem) :=
  ck (mT M x0 = 7) <| lp_X7_drawLots_7 M x0 ((mI M x0 1)) ((0 : Int32))
noncomputable def f_X7_drawLots (M : gMem) (x0 : Nat) : Option (Int32 × gMem) :=
  b_X7_drawLots_0 M x0
set_option maxHeartbeats 4000000 in
set_option maxRecDepth 100000 in
theorem tb_X7_drawLots_71 (X : gX p s m args meth c D cy B (gSt Z B H0) RX7 cX7_drawLots wsX7_drawLots 5) (hr : meth.sig.returnType = (some .int)) {Q : State → Prop} : ∀ (M : gMem) (x0 : Nat) (x1 : Int32) (x2 : Int32) (x4 : Int32) (z : (gMem × Int32) ⊕ ((gMem × Int32 × Int32) ⊕ (Int32 × gMem))), bb_X7_drawLots_71 M x0 x1 x2 x4 = some z → (Sum.elim (fun (q : gMem × Int32) => gGo p l e rX7_drawLots s m args below meth c D cy B H0 5 0 0 Q 71 [(0, vR (some x0)), (1, vI x1), (2, vI x2), (4, vI q.2)] [] q.1) (Sum.elim (fun (q : gMem × Int32 × Int32) => gGo p l e rX7_drawLots s m args below meth c D cy B H0 5 0 0 Q 33 [(0, vR (some x0)), (1, vI q.2.1), (2, vI q.2.2)] [] q.1) (fun (r : Int32 × gMem) => Q = gMQ below D cy B H0 args s 0 0 (some (vI r.1)) r.2))) z → gGo p l e rX7_drawLots s m args below meth c D cy B H0 5 0 0 Q 71 [(0, vR (some x0)), (1, vI x1), (2, vI x2), (4, vI x4)] [] M := by
  intro M x0 x1 x2 x4 z hf hK
  unfold bb_X7_drawLots_71 at hf
  refine g_iload X dX7_drawLots_71 rfl ?_
  refine g_iconst (v := (1 : Int32)) X dX7_drawLots_73 (by decide) ?_
  refine g_iadd X dX7_drawLots_74 ?_
  refine g_iload_n X dX7_drawLots_75 rfl rfl ?_
  refine g_icmp_ge (tgt := 101) X dX7_drawLots_76 (by decide) (fun hc => ?_) (fun hc => ?_)
  · have hf := ife_t hc hf
    refine g_iinc (v := (-1 : Int32)) (lv' := [(2, vI (x2 + (-1 : Int32))), (0, vR (some x0)), (1, vI x1), (4, vI x4)]) X dX7_drawLots_101 rfl (by decide) (by decide) rfl ?_
    refine g_goto (tgt := 33) X dX7_drawLots_104 (by decide) ?_
    obtain ⟨w1, hw1, hz1⟩ := oI_e hf
    subst hz1
    have hf := hw1
    cases hf
    refine g_sub (lvsub_of _ _ [1, 2, 0] rfl) ?_
    exact hK
  · have hf := ife_f hc hf
    refine g_aload_n X dX7_drawLots_79 rfl rfl ?_
    obtain ⟨hT2, hf⟩ := ck_e hf
    refine g_get (ci := 6) (v := vR (mR M x0 12)) 12 X cdX7 i_X7_drawLots_X7 (by decide) k_X7_drawLots_f50 rfl dX7_drawLots_80 rfl hT2 rfl ?_
    refine g_iload X dX7_drawLots_83 rfl ?_
    refine g_aload_n X dX7_drawLots_85 rfl rfl ?_
    refine g_get (ci := 6) (v := vR (mR M x0 12)) 12 X cdX7 i_X7_drawLots_X7 (by decide) k_X7_drawLots_f50 rfl dX7_drawLots_86 rfl hT2 rfl ?_
    refine g_iload X dX7_drawLots_89 rfl ?_
    refine g_iconst (v := (1 : Int32)) X dX7_drawLots_91 (by decide) ?_
    refine g_iadd X dX7_drawLots_92 ?_
    obtain ⟨a3, ha3, hf⟩ := dr_e hf
    obtain ⟨hT4, hf⟩ := ck_e hf
    obtain ⟨hg5, hf⟩ := ck_e hf
    refine g_iald X dX7_drawLots_93 ha3 hT4 hg5 ?_
    obtain ⟨hg6, hf⟩ := ck_e hf
    refine g_iast X dX7_drawLots_94 ha3 hT4 hg6 ?_
    obtain ⟨M7, hM7, hf⟩ := lw_e hf
    rw [← hM7]
    have hT8 : mT M7 x0 = 7 := by rw [hM7]; exact hT2
    have hT9 : mT M7 a3 = 20 := by rw [hM7]; exact hT4
    refine g_iinc (v := (1 : Int32)) (lv' := [(4, vI (x4 + (1 : Int32))), (0, vR (some x0)), (1, vI x1), (2, vI x2)]) X dX7_drawLots_95 rfl (by decide) (by decide) rfl ?_
    refine g_goto (tgt := 71) X dX7_drawLots_98 (by decide) ?_
    cases hf
    refine g_sub (lvsub_of _ _ [1, 2, 3, 0] rfl) ?_
    exact hK
set_option maxHeartbeats 4000000 in
set_option maxRecDepth 100000 in
theorem tl_X7_drawLots_71 (X : gX p s m args meth c D cy B (gSt Z B H0) RX7 cX7_drawLots wsX7_drawLots 5) (hr : meth.sig.returnType = (some .int)) {Q : State → Prop} : ∀ (M : gMem) (x0 : Nat) (x1 : Int32) (x2 : Int32) (x4 : Int32) (z : (gMem × Int32 × Int32) ⊕ (Int32 × gMem)), lp_X7_drawLots_71 M x0 x1 x2 x4 = some z → (Sum.elim (fun (q : gMem × Int32 × Int32) => gGo p l e rX7_drawLots s m args below meth c D cy B H0 5 0 0 Q 33 [(0, vR (some x0)), (1, vI q.2.1), (2, vI q.2.2)] [] q.1) (fun (r : Int32 × gMem) => Q = gMQ below D cy B H0 args s 0 0 (some (vI r.1)) r.2)) z → gGo p l e rX7_drawLots s m args below meth c D cy B H0 5 0 0 Q 71 [(0, vR (some x0)), (1, vI x1), (2, vI x2), (4, vI x4)] [] M := by
  intro M x0 x1 x2 x4 z hf hK
  refine lp_ind (P := (fun (q : gMem × Int32) (z : (gMem × Int32 × Int32) ⊕ (Int32 × gMem)) => (Sum.elim (fun (q : gMem × Int32 × Int32) => gGo p l e rX7_drawLots s m args below meth c D cy B H0 5 0 0 Q 33 [(0, vR (some x0)), (1, vI q.2.1), (2, vI q.2.2)] [] q.1) (fun (r : Int32 × gMem) => Q = gMQ below D cy B H0 args s 0 0 (some (vI r.1)) r.2)) z → gGo p l e rX7_drawLots s m args below meth c D cy B H0 5 0 0 Q 71 [(0, vR (some x0)), (1, vI x1), (2, vI x2), (4, vI q.2)] [] q.1)) (fun q z hq => ?_) _ _ hf hK
  intro hK
  obtain ⟨w, hw, hm⟩ := hq
  refine tb_X7_drawLots_71 X hr _ _ _ _ _ w hw ?_
  cases w with
  | inl a => exact hm hK
  | inr b => cases hm; exact hK
set_option maxHeartbeats 4000000 in
set_option maxRecDepth 100000 in
theorem tb_X7_drawLots_33 (X : gX p s m args meth c D cy B (gSt Z B H0) RX7 cX7_drawLots wsX7_drawLots 5) (hr : meth.sig.returnType = (some .int)) {Q : State → Prop} : ∀ (M : gMem) (x0 : Nat) (x1 : Int32) (x2 : Int32) (z : (gMem × Int32 × Int32) ⊕ (Int32 × gMem)), bb_X7_drawLots_33 M x0 x1 x2 = some z → (Sum.elim (fun (q : gMem × Int32 × Int32) => gGo p l e rX7_drawLots s m args below meth c D cy B H0 5 0 0 Q 33 [(0, vR (some x0)), (1, vI q.2.1), (2, vI q.2.2)] [] q.1) (fun (r : Int32 × gMem) => Q = gMQ below D cy B H0 args s 0 0 (some (vI r.1)) r.2)) z → gGo p l e rX7_drawLots s m args below meth c D cy B H0 5 0 0 Q 33 [(0, vR (some x0)), (1, vI x1), (2, vI x2)] [] M := by
  intro M x0 x1 x2 z hf hK
  unfold bb_X7_drawLots_33 at hf
  refine g_iload_n X dX7_drawLots_33 rfl rfl ?_
  refine g_if_le (tgt := 107) X dX7_drawLots_34 (by decide) (fun hc => ?_) (fun hc => ?_)
  · have hf := ife_t hc hf
    refine g_iload_n X dX7_drawLots_107 rfl rfl ?_
    obtain ⟨w10, hw10, hz10⟩ := oI_e hf
    subst hz10
    have hf := hw10
    cases hf
    refine g_eqQ hK ?_
    exact g_iret X hr dX7_drawLots_108
  · have hf := ife_f hc hf
    refine g_iload_n X dX7_drawLots_37 rfl rfl ?_
    refine g_ldc (v := (69069 : Int32)) X k_X7_drawLots_c132 dX7_drawLots_38 ?_
    refine g_imul X dX7_drawLots_40 ?_
    refine g_iconst (v := (1 : Int32)) X dX7_drawLots_41 (by decide) ?_
    refine g_iadd X dX7_drawLots_42 ?_
    refine g_istore_n (lv' := [(1, vI ((x1 * (69069 : Int32)) + (1 : Int32))), (0, vR (some x0)), (2, vI x2)]) X dX7_drawLots_43 rfl (by decide) rfl ?_
    refine g_iload_n X dX7_drawLots_44 rfl rfl ?_
    refine g_bipush (v := (16 : Int32)) X dX7_drawLots_45 (by decide) ?_
    refine g_iushr X dX7_drawLots_47 ?_
    refine g_iload_n X dX7_drawLots_48 rfl rfl ?_
    obtain ⟨hg11, hf⟩ := ck_e hf
    refine g_irem X dX7_drawLots_49 hg11 ?_
    refine g_istore_n (lv' := [(3, vI ((ushr (((x1 * (69069 : Int32)) + (1 : Int32))) ((16 : Int32))) - (ushr (((x1 * (69069 : Int32)) + (1 : Int32))) ((16 : Int32))) / x2 * x2)), (1, vI ((x1 * (69069 : Int32)) + (1 : Int32))), (0, vR (some x0)), (2, vI x2)]) X dX7_drawLots_50 rfl (by decide) rfl ?_
    refine g_aload_n X dX7_drawLots_51 rfl rfl ?_
    obtain ⟨hT12, hf⟩ := ck_e hf
    refine g_get (ci := 6) (v := vR (mR M x0 11)) 11 X cdX7 i_X7_drawLots_X7 (by decide) k_X7_drawLots_f46 rfl dX7_drawLots_52 rfl hT12 rfl ?_
    refine g_aload_n X dX7_drawLots_55 rfl rfl ?_
    refine g_get (ci := 6) (v := vI (mI M x0 3)) 3 X cdX7 i_X7_drawLots_X7 (by decide) k_X7_drawLots_f75 rfl dX7_drawLots_56 rfl hT12 rfl ?_
    refine g_iload_n X dX7_drawLots_59 rfl rfl ?_
    refine g_isub X dX7_drawLots_60 ?_
    refine g_aload_n X dX7_drawLots_61 rfl rfl ?_
    refine g_get (ci := 6) (v := vR (mR M x0 12)) 12 X cdX7 i_X7_drawLots_X7 (by decide) k_X7_drawLots_f50 rfl dX7_drawLots_62 rfl hT12 rfl ?_
    refine g_iload_n X dX7_drawLots_65 rfl rfl ?_
    obtain ⟨a13, ha13, hf⟩ := dr_e hf
    obtain ⟨hT14, hf⟩ := ck_e hf
    obtain ⟨hg15, hf⟩ := ck_e hf
    refine g_iald X dX7_drawLots_66 ha13 hT14 hg15 ?_
    obtain ⟨a16, ha16, hf⟩ := dr_e hf
    obtain ⟨hT17, hf⟩ := ck_e hf
    obtain ⟨hg18, hf⟩ := ck_e hf
    refine g_iast X dX7_drawLots_67 ha16 hT17 hg18 ?_
    obtain ⟨M19, hM19, hf⟩ := lw_e hf
    rw [← hM19]
    have hT20 : mT M19 x0 = 7 := by rw [hM19]; exact hT12
    have hT21 : mT M19 a13 = 20 := by rw [hM19]; exact hT14
    have hT22 : mT M19 a16 = 20 := by rw [hM19]; exact hT17
    refine g_iload_n X dX7_drawLots_68 rfl rfl ?_
    refine g_istore (lv' := [(4, vI ((ushr (((x1 * (69069 : Int32)) + (1 : Int32))) ((16 : Int32))) - (ushr (((x1 * (69069 : Int32)) + (1 : Int32))) ((16 : Int32))) / x2 * x2)), (3, vI ((ushr (((x1 * (69069 : Int32)) + (1 : Int32))) ((16 : Int32))) - (ushr (((x1 * (69069 : Int32)) + (1 : Int32))) ((16 : Int32))) / x2 * x2)), (1, vI ((x1 * (69069 : Int32)) + (1 : Int32))), (0, vR (some x0)), (2, vI x2)]) X dX7_drawLots_69 (by decide) rfl ?_
    refine g_sub (lvsub_of _ _ [3, 2, 4, 0] rfl) ?_
    exact tl_X7_drawLots_71 X hr _ _ _ _ _ _ hf hK
set_option maxHeartbeats 4000000 in
set_option maxRecDepth 100000 in
theorem tl_X7_drawLots_33 (X : gX p s m args meth c D cy B (gSt Z B H0) RX7 cX7_drawLots wsX7_drawLots 5) (hr : meth.sig.returnType = (some .int)) {Q : State → Prop} : ∀ (M : gMem) (x0 : Nat) (x1 : Int32) (x2 : Int32) (z : Int32 × gMem), lp_X7_drawLots_33 M x0 x1 x2 = some z → (fun (r : Int32 × gMem) => Q = gMQ below D cy B H0 args s 0 0 (some (vI r.1)) r.2) z → gGo p l e rX7_drawLots s m args below meth c D cy B H0 5 0 0 Q 33 [(0, vR (some x0)), (1, vI x1), (2, vI x2)] [] M := by
  intro M x0 x1 x2 z hf hK
  refine lp_ind (P := (fun (q : gMem × Int32 × Int32) (z : Int32 × gMem) => (fun (r : Int32 × gMem) => Q = gMQ below D cy B H0 args s 0 0 (some (vI r.1)) r.2) z → gGo p l e rX7_drawLots s m args below meth c D cy B H0 5 0 0 Q 33 [(0, vR (some x0)), (1, vI q.2.1), (2, vI q.2.2)] [] q.1)) (fun q z hq => ?_) _ _ hf hK
  intro hK
  obtain ⟨w, hw, hm⟩ := hq
  refine tb_X7_drawLots_33 X hr _ _ _ _ w hw ?_
  cases w with
  | inl a => exact hm hK
  | inr b => cases hm; exact hK
set_option maxHeartbeats 4000000 in
set_option maxRecDepth 100000 in
theorem tb_X7_drawLots_7 (X : gX p s m args meth c D cy B (gSt Z B H0) RX7 cX7_drawLots wsX7_drawLots 5) (hr : meth.sig.returnType = (some .int)) {Q : State → Prop} : ∀ (M : gMem) (x0 : Nat) (x1 : Int32) (x2 : Int32) (z : (gMem × Int32) ⊕ (Int32 × gMem)), bb_X7_drawLots_7 M x0 x1 x2 = some z → (Sum.elim (fun (q : gMem × Int32) => gGo p l e rX7_drawLots s m args below meth c D cy B H0 5 0 0 Q 7 [(0, vR (some x0)), (1, vI x1), (2, vI q.2)] [] q.1) (fun (r : Int32 × gMem) => Q = gMQ below D cy B H0 args s 0 0 (some (vI r.1)) r.2)) z → gGo p l e rX7_drawLots s m args below meth c D cy B H0 5 0 0 Q 7 [(0, vR (some x0)), (1, vI x1), (2, vI x2)] [] M := by
  intro M x0 x1 x2 z hf hK
  unfold bb_X7_drawLots_7 at hf
  refine g_iload_n X dX7_drawLots_7 rfl rfl ?_
  refine g_aload_n X dX7_drawLots_8 rfl rfl ?_
  obtain ⟨hT23, hf⟩ := ck_e hf
  refine g_get (ci := 6) (v := vI (mI M x0 3)) 3 X cdX7 i_X7_drawLots_X7 (by decide) k_X7_drawLots_f75 rfl dX7_drawLots_9 rfl hT23 rfl ?_
  refine g_icmp_ge (tgt := 28) X dX7_drawLots_12 (by decide) (fun hc => ?_) (fun hc => ?_)
  · have hf := ife_t hc hf
    refine g_aload_n X dX7_drawLots_28 rfl rfl ?_
    refine g_get (ci := 6) (v := vI (mI M x0 3)) 3 X cdX7 i_X7_drawLots_X7 (by decide) k_X7_drawLots_f75 rfl dX7_drawLots_29 rfl hT23 rfl ?_
    refine g_istore_n (lv' := [(2, vI (mI M x0 3)), (0, vR (some x0)), (1, vI x1)]) X dX7_drawLots_32 rfl (by decide) rfl ?_
    obtain ⟨w24, hw24, hz24⟩ := oI_e hf
    subst hz24
    have hf := hw24
    refine g_sub (lvsub_of _ _ [1, 2, 0] rfl) ?_
    exact tl_X7_drawLots_33 X hr _ _ _ _ _ hf hK
  · have hf := ife_f hc hf
    refine g_aload_n X dX7_drawLots_15 rfl rfl ?_
    refine g_get (ci := 6) (v := vR (mR M x0 12)) 12 X cdX7 i_X7_drawLots_X7 (by decide) k_X7_drawLots_f50 rfl dX7_drawLots_16 rfl hT23 rfl ?_
    refine g_iload_n X dX7_drawLots_19 rfl rfl ?_
    refine g_iload_n X dX7_drawLots_20 rfl rfl ?_
    obtain ⟨a25, ha25, hf⟩ := dr_e hf
    obtain ⟨hT26, hf⟩ := ck_e hf
    obtain ⟨hg27, hf⟩ := ck_e hf
    refine g_iast X dX7_drawLots_21 ha25 hT26 hg27 ?_
    obtain ⟨M28, hM28, hf⟩ := lw_e hf
    rw [← hM28]
    have hT29 : mT M28 x0 = 7 := by rw [hM28]; exact hT23
    have hT30 : mT M28 a25 = 20 := by rw [hM28]; exact hT26
    refine g_iinc (v := (1 : Int32)) (lv' := [(2, vI (x2 + (1 : Int32))), (0, vR (some x0)), (1, vI x1)]) X dX7_drawLots_22 rfl (by decide) (by decide) rfl ?_
    refine g_goto (tgt := 7) X dX7_drawLots_25 (by decide) ?_
    cases hf
    refine g_sub (lvsub_of _ _ [1, 2, 0] rfl) ?_
    exact hK
set_option maxHeartbeats 4000000 in
set_option maxRecDepth 100000 in
theorem tl_X7_drawLots_7 (X : gX p s m args meth c D cy B (gSt Z B H0) RX7 cX7_drawLots wsX7_drawLots 5) (hr : meth.sig.returnType = (some .int)) {Q : State → Prop} : ∀ (M : gMem) (x0 : Nat) (x1 : Int32) (x2 : Int32) (z : Int32 × gMem), lp_X7_drawLots_7 M x0 x1 x2 = some z → (fun (r : Int32 × gMem) => Q = gMQ below D cy B H0 args s 0 0 (some (vI r.1)) r.2) z → gGo p l e rX7_drawLots s m args below meth c D cy B H0 5 0 0 Q 7 [(0, vR (some x0)), (1, vI x1), (2, vI x2)] [] M := by
  intro M x0 x1 x2 z hf hK
  refine lp_ind (P := (fun (q : gMem × Int32) (z : Int32 × gMem) => (fun (r : Int32 × gMem) => Q = gMQ below D cy B H0 args s 0 0 (some (vI r.1)) r.2) z → gGo p l e rX7_drawLots s m args below meth c D cy B H0 5 0 0 Q 7 [(0, vR (some x0)), (1, vI x1), (2, vI q.2)] [] q.1)) (fun q z hq => ?_) _ _ hf hK
  intro hK
  obtain ⟨w, hw, hm⟩ := hq
  refine tb_X7_drawLots_7 X hr _ _ _ _ w hw ?_
  cases w with
  | inl a => exact hm hK
  | inr b => cases hm; exact hK
set_option maxHeartbeats 4000000 in
set_option maxRecDepth 100000 in
theorem t_X7_drawLots_0 (X : gX p s m args meth c D cy B (gSt Z B H0) RX7 cX7_drawLots wsX7_drawLots 5) (hr : meth.sig.returnType = (some .int)) {Q : State → Prop} : ∀ (M : gMem) (x0 : Nat) (z : Int32 × gMem), b_X7_drawLots_0 M x0 = some z → (fun (r : Int32 × gMem) => Q = gMQ below D cy B H0 args s 0 0 (some (vI r.1)) r.2) z → gGo p l e rX7_drawLots s m args below meth c D cy B H0 5 0 0 Q 0 [(0, vR (some x0))] [] M := by
  intro M x0 z hf hK
  unfold b_X7_drawLots_0 at hf
  refine g_aload_n X dX7_drawLots_0 rfl rfl ?_
  obtain ⟨hT31, hf⟩ := ck_e hf
  refine g_get (ci := 6) (v := vI (mI M x0 1)) 1 X cdX7 i_X7_drawLots_X7 (by decide) k_X7_drawLots_f9 rfl dX7_drawLots_1 rfl hT31 rfl ?_
  refine g_istore_n (lv' := [(1, vI (mI M x0 1)), (0, vR (some x0))]) X dX7_drawLots_4 rfl (by decide) rfl ?_
  refine g_iconst (v := (0 : Int32)) X dX7_drawLots_5 (by decide) ?_
  refine g_istore_n (lv' := [(2, vI (0 : Int32)), (1, vI (mI M x0 1)), (0, vR (some x0))]) X dX7_drawLots_6 rfl (by decide) rfl ?_
  refine g_sub (lvsub_of _ _ [2, 1, 0] rfl) ?_
  exact tl_X7_drawLots_7 X hr _ _ _ _ _ hf hK
set_option maxHeartbeats 4000000 in
set_option maxRecDepth 100000 in
theorem m_X7_drawLots (l : Launch) {D : va_G} {cy : Nat → ClassId} {B : Nat} {H0 : Heap} {Z : Nat → Nat} {M M1 : gMem} {x0 : Nat} {r : Int32} (hf : f_X7_drawLots M x0 = some (r, M1)) : Met l yX7_drawLots wsX7_drawLots rX7_drawLots (va_Pc (Value.ref x0 :: List.map gv []) (gPre D cy B H0 (gSt Z B H0) M)) (gQ D cy B H0 (some (vI r)) M1) 0 0 (gA B) := by
  refine Met.ofW (cc := cX7_drawLots) (maxL := 5) (ret := (some .int)) (by decide) rfl ?_
  intro p e s m args below meth c s₁ Bd hml hv
  obtain ⟨rfl, hW, hKK, hFs⟩ := hv
  have X : gX p s m _ meth c D cy B (gSt Z B H0) RX7 cX7_drawLots wsX7_drawLots 5 := ⟨Bd.exec, Bd.bytes, atoms_spec (ws := wsX7_drawLots) Bd.pre, findClass_of_methodNamed Bd.named, hml, hKK, by rw [hW.1]; exact hW.2.1, Bd.notSynchronized, hFs⟩
  have hr := Bd.returns
  have hl := lv_entry ([.ref x0]) (n := 5) (Nat.le_of_ble_eq_true rfl)
  show W p l e rX7_drawLots s m _ below meth c s.heap [] 0 0 _ (entryFrame m ([.ref x0] : List Value).toArray 5)
  rw [lg_entry_eq]
  generalize (lg_sl ([.ref x0]) ++ List.replicate (5 - (lg_sl ([.ref x0])).length) Slot.unset).toArray = ls at hl ⊢
  have hl : lv_has ls 5 (List.map gq [(0, vR (some x0))]) := hl
  exact t_X7_drawLots_0 X hr _ _ _ hf rfl s.heap [] ls hW va_S.rf (lv_has_sub hl (lvsub_of _ _ [0] rfl))
end
