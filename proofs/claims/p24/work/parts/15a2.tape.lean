section
variable {p : Program} {l : Launch} {e : Env} {s : State} {m : MethodId} {args : Array Value} {below : List Frame} {meth : Method} {c : Code} {D : va_G} {cy : Nat → ClassId} {B : Nat} {H0 : Heap} {Z : Nat → Nat}
/-! ## TideLots$Tape.signOf(IILTideLots$Sign;)LTideLots$Sign; -/
theorem dX10_signOf_0 : decode cX10_signOf 0 = .ok (.getstatic 85, 3) := by decide +kernel
theorem dX10_signOf_3 : decode cX10_signOf 3 = .ok (.astore 4, 2) := by decide +kernel
theorem dX10_signOf_5 : decode cX10_signOf 5 = .ok (.aload 4, 2) := by decide +kernel
theorem dX10_signOf_7 : decode cX10_signOf 7 = .ok (.arraylength, 1) := by decide +kernel
theorem dX10_signOf_8 : decode cX10_signOf 8 = .ok (.istore 5, 2) := by decide +kernel
theorem dX10_signOf_10 : decode cX10_signOf 10 = .ok (.iconst 0, 1) := by decide +kernel
theorem dX10_signOf_11 : decode cX10_signOf 11 = .ok (.istore 6, 2) := by decide +kernel
theorem dX10_signOf_13 : decode cX10_signOf 13 = .ok (.iload 6, 2) := by decide +kernel
theorem dX10_signOf_15 : decode cX10_signOf 15 = .ok (.iload 5, 2) := by decide +kernel
theorem dX10_signOf_17 : decode cX10_signOf 17 = .ok (.if_icmp .ge 33, 3) := by decide +kernel
theorem dX10_signOf_20 : decode cX10_signOf 20 = .ok (.aload 4, 2) := by decide +kernel
theorem dX10_signOf_22 : decode cX10_signOf 22 = .ok (.iload 6, 2) := by decide +kernel
theorem dX10_signOf_24 : decode cX10_signOf 24 = .ok (.aaload, 1) := by decide +kernel
theorem dX10_signOf_25 : decode cX10_signOf 25 = .ok (.astore 7, 2) := by decide +kernel
theorem dX10_signOf_27 : decode cX10_signOf 27 = .ok (.aload_n 0, 1) := by decide +kernel
theorem dX10_signOf_28 : decode cX10_signOf 28 = .ok (.aload 7, 2) := by decide +kernel
theorem dX10_signOf_30 : decode cX10_signOf 30 = .ok (.getfield 88, 3) := by decide +kernel
theorem dX10_signOf_33 : decode cX10_signOf 33 = .ok (.iload_n 1, 1) := by decide +kernel
theorem dX10_signOf_34 : decode cX10_signOf 34 = .ok (.iload_n 2, 1) := by decide +kernel
theorem dX10_signOf_35 : decode cX10_signOf 35 = .ok (.invokevirtual 92, 3) := by decide +kernel
theorem dX10_signOf_38 : decode cX10_signOf 38 = .ok (.ifCond .eq 6, 3) := by decide +kernel
theorem dX10_signOf_41 : decode cX10_signOf 41 = .ok (.aload 7, 2) := by decide +kernel
theorem dX10_signOf_43 : decode cX10_signOf 43 = .ok (.areturn, 1) := by decide +kernel
theorem dX10_signOf_44 : decode cX10_signOf 44 = .ok (.iinc 6 1, 3) := by decide +kernel
theorem dX10_signOf_47 : decode cX10_signOf 47 = .ok (.goto (-34), 3) := by decide +kernel
theorem dX10_signOf_50 : decode cX10_signOf 50 = .ok (.aload_n 3, 1) := by decide +kernel
theorem dX10_signOf_51 : decode cX10_signOf 51 = .ok (.areturn, 1) := by decide +kernel
set_option maxRecDepth 20000 in
theorem ggX10_signOf_X10_reads : GoodIn wsX10_signOf wsX10_reads := goodIn_2 24 (goodIn_r _ [6, 7, 8, 9, 10, 11, 12, 13, 14, 15, 16, 17, 18, 19, 20, 21, 5, 22, 23, 24, 25, 26, 27, 28] (by decide +kernel) (by decide +kernel)) (goodIn_2 24 (goodIn_r _ [29, 30, 31, 32, 33, 34, 35, 36, 37, 38, 39, 40, 41, 42, 43, 44, 45, 46, 47, 48, 49, 50, 51, 52] (by decide +kernel) (by decide +kernel)) (goodIn_r _ [53, 54, 55, 56, 57, 58, 59, 60, 61, 62, 63, 64, 65, 66, 67, 68, 69, 70, 71] (by decide +kernel) (by decide +kernel)))
set_option maxRecDepth 20000 in
theorem gX10_signOf_X10_reads : GoodIn wsX10_signOf (wsV RX10 92 RX10 yX10_reads wsX10_reads) := goodIn_app (goodIn_of _ (by decide +kernel)) ggX10_signOf_X10_reads
theorem k_X10_signOf_f88 : Cond.fieldLink RX10 88 "TideLots$Sign" "text" "Ljava/lang/String;" ∈ wsX10_signOf := by decide +kernel
theorem kn_X10_85 : Cond.fieldLinkNest "TideLots$Tape" (85 : Nat) "TideLots" "SIGNS" "[LTideLots$Sign;" "TideLots" ∈ gNs := by decide +kernel
abbrev rX10_signOf : Room := { frames := 5, cells := 0, slots := 0, locals := 109 }
noncomputable def bb_X10_signOf_13 (Z : Nat → Nat) (M : gMem) (x0 : Nat) (x1 : Int32) (x2 : Int32) (x3 : Option Nat) (x5 : Int32) (x6 : Int32) : Option ((gMem × Int32) ⊕ (Option Nat × gMem)) :=
  (if x5 ≤ x6 then oI (some (x3, M)) else ck (inb x6 45) <| dr (ordZ Z ((some (Z (x6.toNatClampNeg))))) fun o3 => ck (mT M x0 = 9) <| bd (f_X10_reads Z M x0 o3 x1 x2) fun r4 M4 => (if r4 = 0 then some (.inl (M4, (x6 + (1 : Int32)))) else oI (some ((some (Z (x6.toNatClampNeg))), M4))))
noncomputable def lp_X10_signOf_13 (Z : Nat → Nat) (M : gMem) (x0 : Nat) (x1 : Int32) (x2 : Int32) (x3 : Option Nat) (x5 : Int32) (x6 : Int32) : Option (Option Nat × gMem) :=
  lp (fun (q : gMem × Int32) => bb_X10_signOf_13 Z q.1 x0 x1 x2 x3 x5 q.2) (M, x6)
noncomputable def b_X10_signOf_0 (Z : Nat → Nat) (M : gMem) (x0 : Nat) (x1 : Int32) (x2 : Int32) (x3 : Option Nat) : Option (Option Nat × gMem) :=
  lp_X10_signOf_13 Z M x0 x1 x2 x3 ((Int32.ofNat 45)) ((0 : Int32))
noncomputable def f_X10_signOf (Z : Nat → Nat) (M : gMem) (x0 : Nat) (x1 : Int32) (x2 : Int32) (x3 : Option Nat) : Option (Option Nat × gMem) :=
  b_X10_signOf_0 Z M x0 x1 x2 x3
set_option maxHeartbeats 4000000 in
set_option maxRecDepth 100000 in
theorem tb_X10_signOf_13 (X : gX p s m args meth c D cy B (gSt Z B H0) RX10 cX10_signOf wsX10_signOf 8) (hr : meth.sig.returnType = (some (.object "TideLots$Sign"))) {Q : State → Prop} : ∀ (M : gMem) (x0 : Nat) (x1 : Int32) (x2 : Int32) (x3 : Option Nat) (x5 : Int32) (x6 : Int32) (z : (gMem × Int32) ⊕ (Option Nat × gMem)), bb_X10_signOf_13 Z M x0 x1 x2 x3 x5 x6 = some z → (Sum.elim (fun (q : gMem × Int32) => gGo p l e rX10_signOf s m args below meth c D cy B H0 8 0 0 Q 13 [(0, vR (some x0)), (1, vI x1), (2, vI x2), (3, vR x3), (4, vR (some (Z 45))), (5, vI x5), (6, vI q.2)] [] q.1) (fun (r : Option Nat × gMem) => Q = gMQ below D cy B H0 args s 0 0 (some (vR r.1)) r.2)) z → gGo p l e rX10_signOf s m args below meth c D cy B H0 8 0 0 Q 13 [(0, vR (some x0)), (1, vI x1), (2, vI x2), (3, vR x3), (4, vR (some (Z 45))), (5, vI x5), (6, vI x6)] [] M := by
  intro M x0 x1 x2 x3 x5 x6 z hf hK
  unfold bb_X10_signOf_13 at hf
  refine g_iload X dX10_signOf_13 rfl ?_
  refine g_iload X dX10_signOf_15 rfl ?_
  refine g_icmp_ge (tgt := 50) X dX10_signOf_17 (by decide) (fun hc => ?_) (fun hc => ?_)
  · have hf := ife_t hc hf
    refine g_aload_n X dX10_signOf_50 rfl rfl ?_
    obtain ⟨w1, hw1, hz1⟩ := oI_e hf
    subst hz1
    have hf := hw1
    cases hf
    refine g_eqQ hK ?_
    exact g_aret X hr (Or.inl ⟨_, rfl⟩) dX10_signOf_51
  · have hf := ife_f hc hf
    refine g_aload X dX10_signOf_20 rfl ?_
    refine g_iload X dX10_signOf_22 rfl ?_
    obtain ⟨hg2, hf⟩ := ck_e hf
    refine g_aaldT (w := some (Z (x6.toNatClampNeg))) X (gSt_T45 X) rfl (gin_nn hg2) (gin_lt hg2) rfl dX10_signOf_24 ?_
    refine g_astore (lv' := [(7, vR (some (Z (x6.toNatClampNeg)))), (0, vR (some x0)), (1, vI x1), (2, vI x2), (3, vR x3), (4, vR (some (Z 45))), (5, vI x5), (6, vI x6)]) X dX10_signOf_25 (by decide) rfl ?_
    refine g_aload_n X dX10_signOf_27 rfl rfl ?_
    refine g_aload X dX10_signOf_28 rfl ?_
    obtain ⟨o3, ho3, hf⟩ := dr_e hf
    refine g_getO (w := vR (some (Z (100 + o3)))) X (gSt_tx X (ordZ_lt ho3)) (ordZ_eq ho3) k_X10_signOf_f88 rfl dX10_signOf_30 ?_
    refine g_iload_n X dX10_signOf_33 rfl rfl ?_
    refine g_iload_n X dX10_signOf_34 rfl rfl ?_
    obtain ⟨hT5, hf⟩ := ck_e hf
    obtain ⟨r4, M4, hq4, hf⟩ := bd_e hf
    refine g_callV (ci := 8) (b := x0) (As := [vR (some (Z (100 + o3))), vI x1, vI x2]) (st := []) (v := some (vI r4)) (M1 := M4) X (m_X10_reads l hq4) (cwV 3 X.2.2.1 gX10_signOf_X10_reads rfl rfl rfl (by decide +kernel) ⟨Nat.le_of_ble_eq_true rfl, Nat.le_of_ble_eq_true rfl⟩) rfl rfl rfl hT5 (by decide) rfl (Nat.le_of_ble_eq_true rfl) dX10_signOf_35 ⟨by decide, by decide⟩ ?_
    refine g_if_eq (tgt := 44) X dX10_signOf_38 (by decide) (fun hc => ?_) (fun hc => ?_)
    · have hf := ife_t hc hf
      refine g_iinc (v := (1 : Int32)) (lv' := [(6, vI (x6 + (1 : Int32))), (7, vR (some (Z (x6.toNatClampNeg)))), (0, vR (some x0)), (1, vI x1), (2, vI x2), (3, vR x3), (4, vR (some (Z 45))), (5, vI x5)]) X dX10_signOf_44 rfl (by decide) (by decide) rfl ?_
      refine g_goto (tgt := 13) X dX10_signOf_47 (by decide) ?_
      cases hf
      refine g_sub (lvsub_of _ _ [2, 3, 4, 5, 6, 7, 0] rfl) ?_
      exact hK
    · have hf := ife_f hc hf
      refine g_aload X dX10_signOf_41 rfl ?_
      obtain ⟨w6, hw6, hz6⟩ := oI_e hf
      subst hz6
      have hf := hw6
      cases hf
      refine g_eqQ hK ?_
      exact g_aret X hr (Or.inl ⟨_, rfl⟩) dX10_signOf_43
set_option maxHeartbeats 4000000 in
set_option maxRecDepth 100000 in
theorem tl_X10_signOf_13 (X : gX p s m args meth c D cy B (gSt Z B H0) RX10 cX10_signOf wsX10_signOf 8) (hr : meth.sig.returnType = (some (.object "TideLots$Sign"))) {Q : State → Prop} : ∀ (M : gMem) (x0 : Nat) (x1 : Int32) (x2 : Int32) (x3 : Option Nat) (x5 : Int32) (x6 : Int32) (z : Option Nat × gMem), lp_X10_signOf_13 Z M x0 x1 x2 x3 x5 x6 = some z → (fun (r : Option Nat × gMem) => Q = gMQ below D cy B H0 args s 0 0 (some (vR r.1)) r.2) z → gGo p l e rX10_signOf s m args below meth c D cy B H0 8 0 0 Q 13 [(0, vR (some x0)), (1, vI x1), (2, vI x2), (3, vR x3), (4, vR (some (Z 45))), (5, vI x5), (6, vI x6)] [] M := by
  intro M x0 x1 x2 x3 x5 x6 z hf hK
  refine lp_ind (P := (fun (q : gMem × Int32) (z : Option Nat × gMem) => (fun (r : Option Nat × gMem) => Q = gMQ below D cy B H0 args s 0 0 (some (vR r.1)) r.2) z → gGo p l e rX10_signOf s m args below meth c D cy B H0 8 0 0 Q 13 [(0, vR (some x0)), (1, vI x1), (2, vI x2), (3, vR x3), (4, vR (some (Z 45))), (5, vI x5), (6, vI q.2)] [] q.1)) (fun q z hq => ?_) _ _ hf hK
  intro hK
  obtain ⟨w, hw, hm⟩ := hq
  refine tb_X10_signOf_13 X hr _ _ _ _ _ _ _ w hw ?_
  cases w with
  | inl a => exact hm hK
  | inr b => cases hm; exact hK
set_option maxHeartbeats 4000000 in
set_option maxRecDepth 100000 in
theorem t_X10_signOf_0 (X : gX p s m args meth c D cy B (gSt Z B H0) RX10 cX10_signOf wsX10_signOf 8) (hr : meth.sig.returnType = (some (.object "TideLots$Sign"))) {Q : State → Prop} : ∀ (M : gMem) (x0 : Nat) (x1 : Int32) (x2 : Int32) (x3 : Option Nat) (z : Option Nat × gMem), b_X10_signOf_0 Z M x0 x1 x2 x3 = some z → (fun (r : Option Nat × gMem) => Q = gMQ below D cy B H0 args s 0 0 (some (vR r.1)) r.2) z → gGo p l e rX10_signOf s m args below meth c D cy B H0 8 0 0 Q 0 [(0, vR (some x0)), (1, vI x1), (2, vI x2), (3, vR x3)] [] M := by
  intro M x0 x1 x2 x3 z hf hK
  unfold b_X10_signOf_0 at hf
  refine g_getsN (w := vR (some (Z 45))) X (gSt_SG X) (gNw X _ kn_X10_85) rfl dX10_signOf_0 ?_
  refine g_astore (lv' := [(4, vR (some (Z 45))), (0, vR (some x0)), (1, vI x1), (2, vI x2), (3, vR x3)]) X dX10_signOf_3 (by decide) rfl ?_
  refine g_aload X dX10_signOf_5 rfl ?_
  refine g_alenT X (gSt_T45 X) rfl dX10_signOf_7 ?_
  refine g_istore (lv' := [(5, vI (Int32.ofNat 45)), (4, vR (some (Z 45))), (0, vR (some x0)), (1, vI x1), (2, vI x2), (3, vR x3)]) X dX10_signOf_8 (by decide) rfl ?_
  refine g_iconst (v := (0 : Int32)) X dX10_signOf_10 (by decide) ?_
  refine g_istore (lv' := [(6, vI (0 : Int32)), (5, vI (Int32.ofNat 45)), (4, vR (some (Z 45))), (0, vR (some x0)), (1, vI x1), (2, vI x2), (3, vR x3)]) X dX10_signOf_11 (by decide) rfl ?_
  refine g_sub (lvsub_of _ _ [3, 4, 5, 6, 2, 1, 0] rfl) ?_
  exact tl_X10_signOf_13 X hr _ _ _ _ _ _ _ _ hf hK
set_option maxHeartbeats 4000000 in
set_option maxRecDepth 100000 in
theorem m_X10_signOf (l : Launch) {D : va_G} {cy : Nat → ClassId} {B : Nat} {H0 : Heap} {Z : Nat → Nat} {M M1 : gMem} {x0 : Nat} {x1 : Int32} {x2 : Int32} {x3 : Option Nat} {r : Option Nat} (hf : f_X10_signOf Z M x0 x1 x2 x3 = some (r, M1)) : Met l yX10_signOf wsX10_signOf rX10_signOf (va_Pc (Value.ref x0 :: List.map gv [vI x1, vI x2, vR x3]) (gPre D cy B H0 (gSt Z B H0) M)) (gQ D cy B H0 (some (vR r)) M1) 0 0 (gA B) := by
  refine Met.ofW (cc := cX10_signOf) (maxL := 8) (ret := (some (.object "TideLots$Sign"))) (by decide) rfl ?_
  intro p e s m args below meth c s₁ Bd hml hv
  obtain ⟨rfl, hW, hKK, hFs⟩ := hv
  have X : gX p s m _ meth c D cy B (gSt Z B H0) RX10 cX10_signOf wsX10_signOf 8 := ⟨Bd.exec, Bd.bytes, atoms_spec (ws := wsX10_signOf) Bd.pre, findClass_of_methodNamed Bd.named, hml, hKK, by rw [hW.1]; exact hW.2.1, Bd.notSynchronized, hFs⟩
  have hr := Bd.returns
  rcases x3 with _ | x3
  · have hl := lv_entry ([.ref x0, .int x1, .int x2, .null]) (n := 8) (Nat.le_of_ble_eq_true rfl)
    show W p l e rX10_signOf s m _ below meth c s.heap [] 0 0 _ (entryFrame m ([.ref x0, .int x1, .int x2, .null] : List Value).toArray 8)
    rw [lg_entry_eq]
    generalize (lg_sl ([.ref x0, .int x1, .int x2, .null]) ++ List.replicate (8 - (lg_sl ([.ref x0, .int x1, .int x2, .null])).length) Slot.unset).toArray = ls at hl ⊢
    have hl : lv_has ls 8 (List.map gq [(0, vR (some x0)), (1, vI x1), (2, vI x2), (3, vR none)]) := hl
    exact t_X10_signOf_0 X hr _ _ _ _ _ _ hf rfl s.heap [] ls hW va_S.rf (lv_has_sub hl (lvsub_of _ _ [0, 1, 2, 3] rfl))
  · have hl := lv_entry ([.ref x0, .int x1, .int x2, .ref x3]) (n := 8) (Nat.le_of_ble_eq_true rfl)
    show W p l e rX10_signOf s m _ below meth c s.heap [] 0 0 _ (entryFrame m ([.ref x0, .int x1, .int x2, .ref x3] : List Value).toArray 8)
    rw [lg_entry_eq]
    generalize (lg_sl ([.ref x0, .int x1, .int x2, .ref x3]) ++ List.replicate (8 - (lg_sl ([.ref x0, .int x1, .int x2, .ref x3])).length) Slot.unset).toArray = ls at hl ⊢
    have hl : lv_has ls 8 (List.map gq [(0, vR (some x0)), (1, vI x1), (2, vI x2), (3, vR (some x3))]) := hl
    exact t_X10_signOf_0 X hr _ _ _ _ _ _ hf rfl s.heap [] ls hW va_S.rf (lv_has_sub hl (lvsub_of _ _ [0, 1, 2, 3] rfl))
/-! ## TideLots$Tape.scanSymbol()LTideLots$Sign; -/
theorem dX10_scanSymbol_0 : decode cX10_scanSymbol 0 = .ok (.iconst 2, 1) := by decide +kernel
theorem dX10_scanSymbol_1 : decode cX10_scanSymbol 1 = .ok (.istore_n 1, 1) := by decide +kernel
theorem dX10_scanSymbol_2 : decode cX10_scanSymbol 2 = .ok (.iload_n 1, 1) := by decide +kernel
theorem dX10_scanSymbol_3 : decode cX10_scanSymbol 3 = .ok (.iconst 1, 1) := by decide +kernel
theorem dX10_scanSymbol_4 : decode cX10_scanSymbol 4 = .ok (.if_icmp .lt 41, 3) := by decide +kernel
theorem dX10_scanSymbol_7 : decode cX10_scanSymbol 7 = .ok (.aload_n 0, 1) := by decide +kernel
theorem dX10_scanSymbol_8 : decode cX10_scanSymbol 8 = .ok (.aload_n 0, 1) := by decide +kernel
theorem dX10_scanSymbol_9 : decode cX10_scanSymbol 9 = .ok (.getfield 37, 3) := by decide +kernel
theorem dX10_scanSymbol_12 : decode cX10_scanSymbol 12 = .ok (.iload_n 1, 1) := by decide +kernel
theorem dX10_scanSymbol_13 : decode cX10_scanSymbol 13 = .ok (.getstatic 47, 3) := by decide +kernel
theorem dX10_scanSymbol_16 : decode cX10_scanSymbol 16 = .ok (.invokevirtual 76, 3) := by decide +kernel
theorem dX10_scanSymbol_19 : decode cX10_scanSymbol 19 = .ok (.astore_n 2, 1) := by decide +kernel
theorem dX10_scanSymbol_20 : decode cX10_scanSymbol 20 = .ok (.aload_n 2, 1) := by decide +kernel
theorem dX10_scanSymbol_21 : decode cX10_scanSymbol 21 = .ok (.getstatic 47, 3) := by decide +kernel
theorem dX10_scanSymbol_24 : decode cX10_scanSymbol 24 = .ok (.if_acmp .eq 15, 3) := by decide +kernel
theorem dX10_scanSymbol_27 : decode cX10_scanSymbol 27 = .ok (.aload_n 0, 1) := by decide +kernel
theorem dX10_scanSymbol_28 : decode cX10_scanSymbol 28 = .ok (.dup, 1) := by decide +kernel
theorem dX10_scanSymbol_29 : decode cX10_scanSymbol 29 = .ok (.getfield 37, 3) := by decide +kernel
theorem dX10_scanSymbol_32 : decode cX10_scanSymbol 32 = .ok (.iload_n 1, 1) := by decide +kernel
theorem dX10_scanSymbol_33 : decode cX10_scanSymbol 33 = .ok (.iadd, 1) := by decide +kernel
theorem dX10_scanSymbol_34 : decode cX10_scanSymbol 34 = .ok (.putfield 37, 3) := by decide +kernel
theorem dX10_scanSymbol_37 : decode cX10_scanSymbol 37 = .ok (.aload_n 2, 1) := by decide +kernel
theorem dX10_scanSymbol_38 : decode cX10_scanSymbol 38 = .ok (.areturn, 1) := by decide +kernel
theorem dX10_scanSymbol_39 : decode cX10_scanSymbol 39 = .ok (.iinc 1 (-1), 3) := by decide +kernel
theorem dX10_scanSymbol_42 : decode cX10_scanSymbol 42 = .ok (.goto (-40), 3) := by decide +kernel
theorem dX10_scanSymbol_45 : decode cX10_scanSymbol 45 = .ok (.getstatic 47, 3) := by decide +kernel
theorem dX10_scanSymbol_48 : decode cX10_scanSymbol 48 = .ok (.areturn, 1) := by decide +kernel
set_option maxRecDepth 20000 in
theorem ggX10_scanSymbol_X10_signOf : GoodIn wsX10_scanSymbol wsX10_signOf := goodIn_2 24 (goodIn_r _ [7, 8, 9, 10, 11, 6, 12, 13, 14, 15, 16, 17, 18, 19, 20, 21, 22, 23, 24, 25, 26, 27, 28, 29] (by decide +kernel) (by decide +kernel)) (goodIn_2 24 (goodIn_r _ [30, 31, 32, 33, 34, 35, 36, 37, 38, 39, 40, 41, 42, 43, 44, 45, 46, 47, 48, 49, 50, 51, 52, 53] (by decide +kernel) (by decide +kernel)) (goodIn_r _ [54, 55, 56, 57, 58, 59, 60, 61, 62, 63, 64, 65, 66, 67, 74, 75, 76, 77, 68, 69, 70, 71, 72, 73] (by decide +kernel) (by decide +kernel)))
set_option maxRecDepth 20000 in
theorem gX10_scanSymbol_X10_signOf : GoodIn wsX10_scanSymbol (wsV RX10 76 RX10 yX10_signOf wsX10_signOf) := goodIn_app (goodIn_of _ (by decide +kernel)) ggX10_scanSymbol_X10_signOf
theorem k_X10_scanSymbol_f47 : Cond.fieldLink RX10 47 "TideLots$Sign" "NO_TOKEN" "LTideLots$Sign;" ∈ wsX10_scanSymbol := by decide +kernel
theorem k_X10_scanSymbol_f37 : Cond.fieldLink RX10 37 "TideLots$Tape" "end" "I" ∈ wsX10_scanSymbol := by decide +kernel
theorem i_X10_scanSymbol_X10 : ∀ w ∈ u_ws RX10 TX10 6, w ∈ wsX10_scanSymbol := by decide +kernel
abbrev rX10_scanSymbol : Room := { frames := 6, cells := 0, slots := 0, locals := 136 }
noncomputable def bb_X10_scanSymbol_2 (Z : Nat → Nat) (M : gMem) (x0 : Nat) (x1 : Int32) : Option ((gMem × Int32) ⊕ (Option Nat × gMem)) :=
  (if x1 < (1 : Int32) then oI (some ((some (Z 43)), M)) else ck (mT M x0 = 9) <| bd (f_X10_signOf Z M x0 ((mI M x0 5)) x1 ((some (Z 43)))) fun r3 M3 => (if r3 = (some (Z 43)) then some (.inl (M3, (x1 + (-1 : Int32)))) else ck (mT M3 x0 = 9) <| lw (wI M3 x0 5 (((mI M3 x0 5) + x1))) fun M5 => oI (some (r3, M5))))
noncomputable def lp_X10_scanSymbol_2 (Z : Nat → Nat) (M : gMem) (x0 : Nat) (x1 : Int32) : Option (Option Nat × gMem) :=
  lp (fun (q : gMem × Int32) => bb_X10_scanSymbol_2 Z q.1 x0 q.2) (M, x1)
noncomputable def b_X10_scanSymbol_0 (Z : Nat → Nat) (M : gMem) (x0 : Nat) : Option (Option Nat × gMem) :=
  lp_X10_scanSymbol_2 Z M x0 ((2 : Int32))
noncomputable def f_X10_scanSymbol (Z : Nat → Nat) (M : gMem) (x0 : Nat) : Option (Option Nat × gMem) :=
  b_X10_scanSymbol_0 Z M x0
set_option maxHeartbeats 4000000 in
set_option maxRecDepth 100000 in
theorem tb_X10_scanSymbol_2 (X : gX p s m args meth c D cy B (gSt Z B H0) RX10 cX10_scanSymbol wsX10_scanSymbol 3) (hr : meth.sig.returnType = (some (.object "TideLots$Sign"))) {Q : State → Prop} : ∀ (M : gMem) (x0 : Nat) (x1 : Int32) (z : (gMem × Int32) ⊕ (Option Nat × gMem)), bb_X10_scanSymbol_2 Z M x0 x1 = some z → (Sum.elim (fun (q : gMem × Int32) => gGo p l e rX10_scanSymbol s m args below meth c D cy B H0 3 0 0 Q 2 [(0, vR (some x0)), (1, vI q.2)] [] q.1) (fun (r : Option Nat × gMem) => Q = gMQ below D cy B H0 args s 0 0 (some (vR r.1)) r.2)) z → gGo p l e rX10_scanSymbol s m args below meth c D cy B H0 3 0 0 Q 2 [(0, vR (some x0)), (1, vI x1)] [] M := by
  intro M x0 x1 z hf hK
  unfold bb_X10_scanSymbol_2 at hf
  refine g_iload_n X dX10_scanSymbol_2 rfl rfl ?_
  refine g_iconst (v := (1 : Int32)) X dX10_scanSymbol_3 (by decide) ?_
  refine g_icmp_lt (tgt := 45) X dX10_scanSymbol_4 (by decide) (fun hc => ?_) (fun hc => ?_)
  · have hf := ife_t hc hf
    refine g_gets (w := vR (some (Z 43))) X (gSt_E X 43 (by decide)) k_X10_scanSymbol_f47 rfl dX10_scanSymbol_45 ?_
    obtain ⟨w1, hw1, hz1⟩ := oI_e hf
    subst hz1
    have hf := hw1
    cases hf
    refine g_eqQ hK ?_
    exact g_aret X hr (Or.inl ⟨_, rfl⟩) dX10_scanSymbol_48
  · have hf := ife_f hc hf
    refine g_aload_n X dX10_scanSymbol_7 rfl rfl ?_
    refine g_aload_n X dX10_scanSymbol_8 rfl rfl ?_
    obtain ⟨hT2, hf⟩ := ck_e hf
    refine g_get (ci := 8) (v := vI (mI M x0 5)) 5 X cdX10 i_X10_scanSymbol_X10 (by decide) k_X10_scanSymbol_f37 rfl dX10_scanSymbol_9 rfl hT2 rfl ?_
    refine g_iload_n X dX10_scanSymbol_12 rfl rfl ?_
    refine g_gets (w := vR (some (Z 43))) X (gSt_E X 43 (by decide)) k_X10_scanSymbol_f47 rfl dX10_scanSymbol_13 ?_
    obtain ⟨r3, M3, hq3, hf⟩ := bd_e hf
    refine g_callV (ci := 8) (b := x0) (As := [vI (mI M x0 5), vI x1, vR (some (Z 43))]) (st := []) (v := some (vR r3)) (M1 := M3) X (m_X10_signOf l hq3) (cwV 3 X.2.2.1 gX10_scanSymbol_X10_signOf rfl rfl rfl (by decide +kernel) ⟨Nat.le_of_ble_eq_true rfl, Nat.le_of_ble_eq_true rfl⟩) rfl rfl rfl hT2 (by decide) rfl (Nat.le_of_ble_eq_true rfl) dX10_scanSymbol_16 ⟨by decide, by decide⟩ ?_
    refine g_astore_n (lv' := [(2, vR r3), (0, vR (some x0)), (1, vI x1)]) X dX10_scanSymbol_19 rfl (by decide) rfl ?_
    refine g_aload_n X dX10_scanSymbol_20 rfl rfl ?_
    refine g_gets (w := vR (some (Z 43))) X (gSt_E X 43 (by decide)) k_X10_scanSymbol_f47 rfl dX10_scanSymbol_21 ?_
    refine g_acmp_eq (tgt := 39) X dX10_scanSymbol_24 (by decide) (fun hc => ?_) (fun hc => ?_)
    · have hf := ife_t hc hf
      refine g_iinc (v := (-1 : Int32)) (lv' := [(1, vI (x1 + (-1 : Int32))), (2, vR r3), (0, vR (some x0))]) X dX10_scanSymbol_39 rfl (by decide) (by decide) rfl ?_
      refine g_goto (tgt := 2) X dX10_scanSymbol_42 (by decide) ?_
      cases hf
      refine g_sub (lvsub_of _ _ [2, 0] rfl) ?_
      exact hK
    · have hf := ife_f hc hf
      refine g_aload_n X dX10_scanSymbol_27 rfl rfl ?_
      refine g_dup X dX10_scanSymbol_28 rfl ?_
      obtain ⟨hT4, hf⟩ := ck_e hf
      refine g_get (ci := 8) (v := vI (mI M3 x0 5)) 5 X cdX10 i_X10_scanSymbol_X10 (by decide) k_X10_scanSymbol_f37 rfl dX10_scanSymbol_29 rfl hT4 rfl ?_
      refine g_iload_n X dX10_scanSymbol_32 rfl rfl ?_
      refine g_iadd X dX10_scanSymbol_33 ?_
      refine g_putI (ci := 8) 5 X cdX10 i_X10_scanSymbol_X10 (by decide) k_X10_scanSymbol_f37 rfl dX10_scanSymbol_34 rfl hT4 (Or.inl rfl) rfl rfl rfl ?_
      obtain ⟨M5, hM5, hf⟩ := lw_e hf
      rw [← hM5]
      have hT6 : mT M5 x0 = 9 := by rw [hM5]; exact hT4
      refine g_aload_n X dX10_scanSymbol_37 rfl rfl ?_
      obtain ⟨w7, hw7, hz7⟩ := oI_e hf
      subst hz7
      have hf := hw7
      cases hf
      refine g_eqQ hK ?_
      exact g_aret X hr (Or.inl ⟨_, rfl⟩) dX10_scanSymbol_38
set_option maxHeartbeats 4000000 in
set_option maxRecDepth 100000 in
theorem tl_X10_scanSymbol_2 (X : gX p s m args meth c D cy B (gSt Z B H0) RX10 cX10_scanSymbol wsX10_scanSymbol 3) (hr : meth.sig.returnType = (some (.object "TideLots$Sign"))) {Q : State → Prop} : ∀ (M : gMem) (x0 : Nat) (x1 : Int32) (z : Option Nat × gMem), lp_X10_scanSymbol_2 Z M x0 x1 = some z → (fun (r : Option Nat × gMem) => Q = gMQ below D cy B H0 args s 0 0 (some (vR r.1)) r.2) z → gGo p l e rX10_scanSymbol s m args below meth c D cy B H0 3 0 0 Q 2 [(0, vR (some x0)), (1, vI x1)] [] M := by
  intro M x0 x1 z hf hK
  refine lp_ind (P := (fun (q : gMem × Int32) (z : Option Nat × gMem) => (fun (r : Option Nat × gMem) => Q = gMQ below D cy B H0 args s 0 0 (some (vR r.1)) r.2) z → gGo p l e rX10_scanSymbol s m args below meth c D cy B H0 3 0 0 Q 2 [(0, vR (some x0)), (1, vI q.2)] [] q.1)) (fun q z hq => ?_) _ _ hf hK
  intro hK
  obtain ⟨w, hw, hm⟩ := hq
  refine tb_X10_scanSymbol_2 X hr _ _ _ w hw ?_
  cases w with
  | inl a => exact hm hK
  | inr b => cases hm; exact hK
set_option maxHeartbeats 4000000 in
set_option maxRecDepth 100000 in
theorem t_X10_scanSymbol_0 (X : gX p s m args meth c D cy B (gSt Z B H0) RX10 cX10_scanSymbol wsX10_scanSymbol 3) (hr : meth.sig.returnType = (some (.object "TideLots$Sign"))) {Q : State → Prop} : ∀ (M : gMem) (x0 : Nat) (z : Option Nat × gMem), b_X10_scanSymbol_0 Z M x0 = some z → (fun (r : Option Nat × gMem) => Q = gMQ below D cy B H0 args s 0 0 (some (vR r.1)) r.2) z → gGo p l e rX10_scanSymbol s m args below meth c D cy B H0 3 0 0 Q 0 [(0, vR (some x0))] [] M := by
  intro M x0 z hf hK
  unfold b_X10_scanSymbol_0 at hf
  refine g_iconst (v := (2 : Int32)) X dX10_scanSymbol_0 (by decide) ?_
  refine g_istore_n (lv' := [(1, vI (2 : Int32)), (0, vR (some x0))]) X dX10_scanSymbol_1 rfl (by decide) rfl ?_
  refine g_sub (lvsub_of _ _ [1, 0] rfl) ?_
  exact tl_X10_scanSymbol_2 X hr _ _ _ _ hf hK
set_option maxHeartbeats 4000000 in
set_option maxRecDepth 100000 in
theorem m_X10_scanSymbol (l : Launch) {D : va_G} {cy : Nat → ClassId} {B : Nat} {H0 : Heap} {Z : Nat → Nat} {M M1 : gMem} {x0 : Nat} {r : Option Nat} (hf : f_X10_scanSymbol Z M x0 = some (r, M1)) : Met l yX10_scanSymbol wsX10_scanSymbol rX10_scanSymbol (va_Pc (Value.ref x0 :: List.map gv []) (gPre D cy B H0 (gSt Z B H0) M)) (gQ D cy B H0 (some (vR r)) M1) 0 0 (gA B) := by
  refine Met.ofW (cc := cX10_scanSymbol) (maxL := 3) (ret := (some (.object "TideLots$Sign"))) (by decide) rfl ?_
  intro p e s m args below meth c s₁ Bd hml hv
  obtain ⟨rfl, hW, hKK, hFs⟩ := hv
  have X : gX p s m _ meth c D cy B (gSt Z B H0) RX10 cX10_scanSymbol wsX10_scanSymbol 3 := ⟨Bd.exec, Bd.bytes, atoms_spec (ws := wsX10_scanSymbol) Bd.pre, findClass_of_methodNamed Bd.named, hml, hKK, by rw [hW.1]; exact hW.2.1, Bd.notSynchronized, hFs⟩
  have hr := Bd.returns
  have hl := lv_entry ([.ref x0]) (n := 3) (Nat.le_of_ble_eq_true rfl)
  show W p l e rX10_scanSymbol s m _ below meth c s.heap [] 0 0 _ (entryFrame m ([.ref x0] : List Value).toArray 3)
  rw [lg_entry_eq]
  generalize (lg_sl ([.ref x0]) ++ List.replicate (3 - (lg_sl ([.ref x0])).length) Slot.unset).toArray = ls at hl ⊢
  have hl : lv_has ls 3 (List.map gq [(0, vR (some x0))]) := hl
  exact t_X10_scanSymbol_0 X hr _ _ _ hf rfl s.heap [] ls hW va_S.rf (lv_has_sub hl (lvsub_of _ _ [0] rfl))
/-! ## TideLots$Tape.scanWord(I)LTideLots$Sign; -/
theorem dX10_scanWord_0 : decode cX10_scanWord 0 = .ok (.aload_n 0, 1) := by decide +kernel
theorem dX10_scanWord_1 : decode cX10_scanWord 1 = .ok (.getfield 37, 3) := by decide +kernel
theorem dX10_scanWord_4 : decode cX10_scanWord 4 = .ok (.istore_n 2, 1) := by decide +kernel
theorem dX10_scanWord_5 : decode cX10_scanWord 5 = .ok (.lconst 0, 1) := by decide +kernel
theorem dX10_scanWord_6 : decode cX10_scanWord 6 = .ok (.lstore_n 3, 1) := by decide +kernel
theorem dX10_scanWord_7 : decode cX10_scanWord 7 = .ok (.aload_n 0, 1) := by decide +kernel
theorem dX10_scanWord_8 : decode cX10_scanWord 8 = .ok (.getfield 37, 3) := by decide +kernel
theorem dX10_scanWord_11 : decode cX10_scanWord 11 = .ok (.aload_n 0, 1) := by decide +kernel
theorem dX10_scanWord_12 : decode cX10_scanWord 12 = .ok (.getfield 33, 3) := by decide +kernel
theorem dX10_scanWord_15 : decode cX10_scanWord 15 = .ok (.if_icmp .ge 91, 3) := by decide +kernel
theorem dX10_scanWord_18 : decode cX10_scanWord 18 = .ok (.aload_n 0, 1) := by decide +kernel
theorem dX10_scanWord_19 : decode cX10_scanWord 19 = .ok (.aload_n 0, 1) := by decide +kernel
theorem dX10_scanWord_20 : decode cX10_scanWord 20 = .ok (.getfield 37, 3) := by decide +kernel
theorem dX10_scanWord_23 : decode cX10_scanWord 23 = .ok (.invokevirtual 54, 3) := by decide +kernel
theorem dX10_scanWord_26 : decode cX10_scanWord 26 = .ok (.ifCond .ne 14, 3) := by decide +kernel
theorem dX10_scanWord_29 : decode cX10_scanWord 29 = .ok (.aload_n 0, 1) := by decide +kernel
theorem dX10_scanWord_30 : decode cX10_scanWord 30 = .ok (.aload_n 0, 1) := by decide +kernel
theorem dX10_scanWord_31 : decode cX10_scanWord 31 = .ok (.getfield 37, 3) := by decide +kernel
theorem dX10_scanWord_34 : decode cX10_scanWord 34 = .ok (.invokevirtual 61, 3) := by decide +kernel
theorem dX10_scanWord_37 : decode cX10_scanWord 37 = .ok (.ifCond .eq 69, 3) := by decide +kernel
theorem dX10_scanWord_40 : decode cX10_scanWord 40 = .ok (.aload_n 0, 1) := by decide +kernel
theorem dX10_scanWord_41 : decode cX10_scanWord 41 = .ok (.aload_n 0, 1) := by decide +kernel
theorem dX10_scanWord_42 : decode cX10_scanWord 42 = .ok (.getfield 37, 3) := by decide +kernel
theorem dX10_scanWord_45 : decode cX10_scanWord 45 = .ok (.invokevirtual 54, 3) := by decide +kernel
theorem dX10_scanWord_48 : decode cX10_scanWord 48 = .ok (.ifCond .eq 20, 3) := by decide +kernel
theorem dX10_scanWord_51 : decode cX10_scanWord 51 = .ok (.aload_n 0, 1) := by decide +kernel
theorem dX10_scanWord_52 : decode cX10_scanWord 52 = .ok (.aload_n 0, 1) := by decide +kernel
theorem dX10_scanWord_53 : decode cX10_scanWord 53 = .ok (.getfield 37, 3) := by decide +kernel
theorem dX10_scanWord_56 : decode cX10_scanWord 56 = .ok (.invokevirtual 50, 3) := by decide +kernel
theorem dX10_scanWord_59 : decode cX10_scanWord 59 = .ok (.bipush 97, 2) := by decide +kernel
theorem dX10_scanWord_61 : decode cX10_scanWord 61 = .ok (.isub, 1) := by decide +kernel
theorem dX10_scanWord_62 : decode cX10_scanWord 62 = .ok (.bipush 11, 2) := by decide +kernel
theorem dX10_scanWord_64 : decode cX10_scanWord 64 = .ok (.iadd, 1) := by decide +kernel
theorem dX10_scanWord_65 : decode cX10_scanWord 65 = .ok (.goto 16, 3) := by decide +kernel
theorem dX10_scanWord_68 : decode cX10_scanWord 68 = .ok (.aload_n 0, 1) := by decide +kernel
theorem dX10_scanWord_69 : decode cX10_scanWord 69 = .ok (.aload_n 0, 1) := by decide +kernel
theorem dX10_scanWord_70 : decode cX10_scanWord 70 = .ok (.getfield 37, 3) := by decide +kernel
theorem dX10_scanWord_73 : decode cX10_scanWord 73 = .ok (.invokevirtual 50, 3) := by decide +kernel
theorem dX10_scanWord_76 : decode cX10_scanWord 76 = .ok (.bipush 48, 2) := by decide +kernel
theorem dX10_scanWord_78 : decode cX10_scanWord 78 = .ok (.isub, 1) := by decide +kernel
theorem dX10_scanWord_79 : decode cX10_scanWord 79 = .ok (.iconst 1, 1) := by decide +kernel
theorem dX10_scanWord_80 : decode cX10_scanWord 80 = .ok (.iadd, 1) := by decide +kernel
theorem dX10_scanWord_81 : decode cX10_scanWord 81 = .ok (.istore 5, 2) := by decide +kernel
theorem dX10_scanWord_83 : decode cX10_scanWord 83 = .ok (.lload_n 3, 1) := by decide +kernel
theorem dX10_scanWord_84 : decode cX10_scanWord 84 = .ok (.ldc2_w 71, 3) := by decide +kernel
theorem dX10_scanWord_87 : decode cX10_scanWord 87 = .ok (.lmul, 1) := by decide +kernel
theorem dX10_scanWord_88 : decode cX10_scanWord 88 = .ok (.iload 5, 2) := by decide +kernel
theorem dX10_scanWord_90 : decode cX10_scanWord 90 = .ok (.i2l, 1) := by decide +kernel
theorem dX10_scanWord_91 : decode cX10_scanWord 91 = .ok (.ladd, 1) := by decide +kernel
theorem dX10_scanWord_92 : decode cX10_scanWord 92 = .ok (.lstore_n 3, 1) := by decide +kernel
theorem dX10_scanWord_93 : decode cX10_scanWord 93 = .ok (.aload_n 0, 1) := by decide +kernel
theorem dX10_scanWord_94 : decode cX10_scanWord 94 = .ok (.dup, 1) := by decide +kernel
theorem dX10_scanWord_95 : decode cX10_scanWord 95 = .ok (.getfield 37, 3) := by decide +kernel
theorem dX10_scanWord_98 : decode cX10_scanWord 98 = .ok (.iconst 1, 1) := by decide +kernel
theorem dX10_scanWord_99 : decode cX10_scanWord 99 = .ok (.iadd, 1) := by decide +kernel
theorem dX10_scanWord_100 : decode cX10_scanWord 100 = .ok (.putfield 37, 3) := by decide +kernel
theorem dX10_scanWord_103 : decode cX10_scanWord 103 = .ok (.goto (-96), 3) := by decide +kernel
theorem dX10_scanWord_106 : decode cX10_scanWord 106 = .ok (.aload_n 0, 1) := by decide +kernel
theorem dX10_scanWord_107 : decode cX10_scanWord 107 = .ok (.getfield 25, 3) := by decide +kernel
theorem dX10_scanWord_110 : decode cX10_scanWord 110 = .ok (.iload_n 1, 1) := by decide +kernel
theorem dX10_scanWord_111 : decode cX10_scanWord 111 = .ok (.lload_n 3, 1) := by decide +kernel
theorem dX10_scanWord_112 : decode cX10_scanWord 112 = .ok (.lastore, 1) := by decide +kernel
theorem dX10_scanWord_113 : decode cX10_scanWord 113 = .ok (.aload_n 0, 1) := by decide +kernel
theorem dX10_scanWord_114 : decode cX10_scanWord 114 = .ok (.getfield 37, 3) := by decide +kernel
theorem dX10_scanWord_117 : decode cX10_scanWord 117 = .ok (.iload_n 2, 1) := by decide +kernel
theorem dX10_scanWord_118 : decode cX10_scanWord 118 = .ok (.isub, 1) := by decide +kernel
theorem dX10_scanWord_119 : decode cX10_scanWord 119 = .ok (.bipush 10, 2) := by decide +kernel
theorem dX10_scanWord_121 : decode cX10_scanWord 121 = .ok (.if_icmp .le 9, 3) := by decide +kernel
theorem dX10_scanWord_124 : decode cX10_scanWord 124 = .ok (.getstatic 47, 3) := by decide +kernel
theorem dX10_scanWord_127 : decode cX10_scanWord 127 = .ok (.goto 17, 3) := by decide +kernel
theorem dX10_scanWord_130 : decode cX10_scanWord 130 = .ok (.aload_n 0, 1) := by decide +kernel
theorem dX10_scanWord_131 : decode cX10_scanWord 131 = .ok (.iload_n 2, 1) := by decide +kernel
theorem dX10_scanWord_132 : decode cX10_scanWord 132 = .ok (.aload_n 0, 1) := by decide +kernel
theorem dX10_scanWord_133 : decode cX10_scanWord 133 = .ok (.getfield 37, 3) := by decide +kernel
theorem dX10_scanWord_136 : decode cX10_scanWord 136 = .ok (.iload_n 2, 1) := by decide +kernel
theorem dX10_scanWord_137 : decode cX10_scanWord 137 = .ok (.isub, 1) := by decide +kernel
theorem dX10_scanWord_138 : decode cX10_scanWord 138 = .ok (.getstatic 73, 3) := by decide +kernel
theorem dX10_scanWord_141 : decode cX10_scanWord 141 = .ok (.invokevirtual 76, 3) := by decide +kernel
theorem dX10_scanWord_144 : decode cX10_scanWord 144 = .ok (.areturn, 1) := by decide +kernel
set_option maxRecDepth 20000 in
theorem ggX10_scanWord_X10_signOf : GoodIn wsX10_scanWord wsX10_signOf := goodIn_2 24 (goodIn_r _ [24, 25, 26, 27, 28, 10, 29, 30, 31, 32, 33, 34, 35, 36, 37, 38, 39, 40, 41, 12, 13, 14, 15, 2] (by decide +kernel) (by decide +kernel)) (goodIn_2 24 (goodIn_r _ [16, 42, 43, 44, 45, 46, 47, 48, 49, 50, 51, 52, 53, 54, 55, 56, 57, 58, 59, 60, 61, 62, 63, 64] (by decide +kernel) (by decide +kernel)) (goodIn_r _ [65, 66, 67, 68, 69, 70, 71, 72, 73, 74, 75, 76, 77, 78, 85, 86, 87, 88, 79, 80, 81, 82, 83, 84] (by decide +kernel) (by decide +kernel)))
set_option maxRecDepth 20000 in
theorem gX10_scanWord_X10_signOf : GoodIn wsX10_scanWord (wsV RX10 76 RX10 yX10_signOf wsX10_signOf) := goodIn_app (goodIn_of _ (by decide +kernel)) ggX10_scanWord_X10_signOf
set_option maxRecDepth 20000 in
theorem ggX10_scanWord_X10_isLetter : GoodIn wsX10_scanWord wsX10_isLetter := goodIn_r _ [11, 12, 13, 14, 10, 15, 2, 16, 79, 80, 81, 82, 83, 84] (by decide +kernel) (by decide +kernel)
set_option maxRecDepth 20000 in
theorem gX10_scanWord_X10_isLetter : GoodIn wsX10_scanWord (wsV RX10 54 RX10 yX10_isLetter wsX10_isLetter) := goodIn_app (goodIn_of _ (by decide +kernel)) ggX10_scanWord_X10_isLetter
set_option maxRecDepth 20000 in
theorem ggX10_scanWord_X10_at : GoodIn wsX10_scanWord wsX10_at := goodIn_r _ [15, 2, 16, 79, 80, 81, 82, 83, 84] (by decide +kernel) (by decide +kernel)
set_option maxRecDepth 20000 in
theorem gX10_scanWord_X10_at : GoodIn wsX10_scanWord (wsV RX10 50 RX10 yX10_at wsX10_at) := goodIn_app (goodIn_of _ (by decide +kernel)) ggX10_scanWord_X10_at
set_option maxRecDepth 20000 in
theorem ggX10_scanWord_X10_isDigit : GoodIn wsX10_scanWord wsX10_isDigit := goodIn_r _ [20, 12, 13, 14, 10, 15, 2, 16, 79, 80, 81, 82, 83, 84] (by decide +kernel) (by decide +kernel)
set_option maxRecDepth 20000 in
theorem gX10_scanWord_X10_isDigit : GoodIn wsX10_scanWord (wsV RX10 61 RX10 yX10_isDigit wsX10_isDigit) := goodIn_app (goodIn_of _ (by decide +kernel)) ggX10_scanWord_X10_isDigit
theorem k_X10_scanWord_f25 : Cond.fieldLink RX10 25 "TideLots$Tape" "values" "[J" ∈ wsX10_scanWord := by decide +kernel
theorem i_X10_scanWord_X10 : ∀ w ∈ u_ws RX10 TX10 6, w ∈ wsX10_scanWord := by decide +kernel
theorem k_X10_scanWord_f37 : Cond.fieldLink RX10 37 "TideLots$Tape" "end" "I" ∈ wsX10_scanWord := by decide +kernel
theorem k_X10_scanWord_f73 : Cond.fieldLink RX10 73 "TideLots$Sign" "NAME" "LTideLots$Sign;" ∈ wsX10_scanWord := by decide +kernel
theorem k_X10_scanWord_f47 : Cond.fieldLink RX10 47 "TideLots$Sign" "NO_TOKEN" "LTideLots$Sign;" ∈ wsX10_scanWord := by decide +kernel
theorem k_X10_scanWord_c71 : Jvm.Cond.constantLong RX10 71 (37) ∈ wsX10_scanWord := by decide +kernel
theorem k_X10_scanWord_f33 : Cond.fieldLink RX10 33 "TideLots$Tape" "length" "I" ∈ wsX10_scanWord := by decide +kernel
abbrev rX10_scanWord : Room := { frames := 6, cells := 0, slots := 0, locals := 136 }
noncomputable def b_X10_scanWord_144 (Z : Nat → Nat) (M : gMem) (s0 : Option Nat) : Option (Option Nat × gMem) :=
  some (s0, M)
noncomputable def b_X10_scanWord_106 (Z : Nat → Nat) (M : gMem) (x0 : Nat) (x1 : Int32) (x2 : Int32) (x3 : Int64) : Option (Option Nat × gMem) :=
  ck (mT M x0 = 9) <| dr ((mR M x0 4)) fun a2 => ck (mT M a2 = 21) <| ck (inb x1 (mL M a2)) <| lw (wJ M a2 x1.toNatClampNeg x3) fun M5 => (if ((mI M5 x0 5) - x2) ≤ (10 : Int32) then bd (f_X10_signOf Z M5 x0 x2 (((mI M5 x0 5) - x2)) ((some (Z 40)))) fun r8 M8 => b_X10_scanWord_144 Z M8 r8 else b_X10_scanWord_144 Z M5 ((some (Z 43))))
noncomputable def b_X10_scanWord_81 (Z : Nat → Nat) (M : gMem) (x0 : Nat) (x1 : Int32) (x2 : Int32) (x3 : Int64) (s0 : Int32) : Option ((gMem × Int64) ⊕ (Option Nat × gMem)) :=
  ck (mT M x0 = 9) <| lw (wI M x0 5 (((mI M x0 5) + (1 : Int32)))) fun M10 => some (.inl (M10, ((x3 * (37 : Int64)) + (Int32.toInt64 s0))))
noncomputable def b_X10_scanWord_40 (Z : Nat → Nat) (M : gMem) (x0 : Nat) (x1 : Int32) (x2 : Int32) (x3 : Int64) : Option ((gMem × Int64) ⊕ (Option Nat × gMem)) :=
  ck (mT M x0 = 9) <| bd (f_X10_isLetter M x0 ((mI M x0 5))) fun r13 M13 => (if r13 = 0 then ck (mT M13 x0 = 9) <| bd (f_X10_at M13 x0 ((mI M13 x0 5))) fun r15 M15 => b_X10_scanWord_81 Z M15 x0 x1 x2 x3 (((r15 - (48 : Int32)) + (1 : Int32))) else ck (mT M13 x0 = 9) <| bd (f_X10_at M13 x0 ((mI M13 x0 5))) fun r17 M17 => b_X10_scanWord_81 Z M17 x0 x1 x2 x3 (((r17 - (97 : Int32)) + (11 : Int32))))
noncomputable def bb_X10_scanWord_7 (Z : Nat → Nat) (M : gMem) (x0 : Nat) (x1 : Int32) (x2 : Int32) (x3 : Int64) : Option ((gMem × Int64) ⊕ (Option Nat × gMem)) :=
  ck (mT M x0 = 9) <| (if (mI M x0 0) ≤ (mI M x0 5) then oI (b_X10_scanWord_106 Z M x0 x1 x2 x3) else bd (f_X10_isLetter M x0 ((mI M x0 5))) fun r20 M20 => (if r20 = 0 then ck (mT M20 x0 = 9) <| bd (f_X10_isDigit M20 x0 ((mI M20 x0 5))) fun r22 M22 => (if r22 = 0 then oI (b_X10_scanWord_106 Z M22 x0 x1 x2 x3) else b_X10_scanWord_40 Z M22 x0 x1 x2 x3) else b_X10_scanWord_40 Z M20 x0 x1 x2 x3))
noncomputable def lp_X10_scanWord_7 (Z : Nat → Nat) (M : gMem) (x0 : Nat) (x1 : Int32) (x2 : Int32) (x3 : Int64) : Option (Option Nat × gMem) :=
  lp (fun (q : gMem × Int64) => bb_X10_scanWord_7 Z q.1 x0 x1 x2 q.2) (M, x3)
noncomputable def b_X10_scanWord_0 (Z : Nat → Nat) (M : gMem) (x0 : Nat) (x1 : Int32) : Option (Option Nat × gMem) :=
  ck (mT M x0 = 9) <| lp_X10_scanWord_7 Z M x0 x1 ((mI M x0 5)) ((0 : Int64))
noncomputable def f_X10_scanWord (Z : Nat → Nat) (M : gMem) (x0 : Nat) (x1 : Int32) : Option (Option Nat × gMem) :=
  b_X10_scanWord_0 Z M x0 x1
set_option maxHeartbeats 4000000 in
set_option maxRecDepth 100000 in
theorem t_X10_scanWord_144 (X : gX p s m args meth c D cy B (gSt Z B H0) RX10 cX10_scanWord wsX10_scanWord 6) (hr : meth.sig.returnType = (some (.object "TideLots$Sign"))) {Q : State → Prop} : ∀ (M : gMem) (s0 : Option Nat) (z : Option Nat × gMem), b_X10_scanWord_144 Z M s0 = some z → (fun (r : Option Nat × gMem) => Q = gMQ below D cy B H0 args s 0 0 (some (vR r.1)) r.2) z → gGo p l e rX10_scanWord s m args below meth c D cy B H0 6 0 0 Q 144 [] [vR s0] M := by
  intro M s0 z hf hK
  unfold b_X10_scanWord_144 at hf
  cases hf
  refine g_eqQ hK ?_
  exact g_aret X hr (Or.inl ⟨_, rfl⟩) dX10_scanWord_144
set_option maxHeartbeats 4000000 in
set_option maxRecDepth 100000 in
theorem t_X10_scanWord_106 (X : gX p s m args meth c D cy B (gSt Z B H0) RX10 cX10_scanWord wsX10_scanWord 6) (hr : meth.sig.returnType = (some (.object "TideLots$Sign"))) {Q : State → Prop} : ∀ (M : gMem) (x0 : Nat) (x1 : Int32) (x2 : Int32) (x3 : Int64) (z : Option Nat × gMem), b_X10_scanWord_106 Z M x0 x1 x2 x3 = some z → (fun (r : Option Nat × gMem) => Q = gMQ below D cy B H0 args s 0 0 (some (vR r.1)) r.2) z → gGo p l e rX10_scanWord s m args below meth c D cy B H0 6 0 0 Q 106 [(0, vR (some x0)), (1, vI x1), (2, vI x2), (3, vJ x3)] [] M := by
  intro M x0 x1 x2 x3 z hf hK
  unfold b_X10_scanWord_106 at hf
  refine g_aload_n X dX10_scanWord_106 rfl rfl ?_
  obtain ⟨hT1, hf⟩ := ck_e hf
  refine g_get (ci := 8) (v := vR (mR M x0 4)) 4 X cdX10 i_X10_scanWord_X10 (by decide) k_X10_scanWord_f25 rfl dX10_scanWord_107 rfl hT1 rfl ?_
  refine g_iload_n X dX10_scanWord_110 rfl rfl ?_
  refine g_lload_n X dX10_scanWord_111 rfl rfl ?_
  obtain ⟨a2, ha2, hf⟩ := dr_e hf
  obtain ⟨hT3, hf⟩ := ck_e hf
  obtain ⟨hg4, hf⟩ := ck_e hf
  refine g_last X dX10_scanWord_112 ha2 hT3 hg4 ?_
  obtain ⟨M5, hM5, hf⟩ := lw_e hf
  rw [← hM5]
  have hT6 : mT M5 x0 = 9 := by rw [hM5]; exact hT1
  have hT7 : mT M5 a2 = 21 := by rw [hM5]; exact hT3
  refine g_aload_n X dX10_scanWord_113 rfl rfl ?_
  refine g_get (ci := 8) (v := vI (mI M5 x0 5)) 5 X cdX10 i_X10_scanWord_X10 (by decide) k_X10_scanWord_f37 rfl dX10_scanWord_114 rfl hT6 rfl ?_
  refine g_iload_n X dX10_scanWord_117 rfl rfl ?_
  refine g_isub X dX10_scanWord_118 ?_
  refine g_bipush (v := (10 : Int32)) X dX10_scanWord_119 (by decide) ?_
  refine g_icmp_le (tgt := 130) X dX10_scanWord_121 (by decide) (fun hc => ?_) (fun hc => ?_)
  · have hf := ife_t hc hf
    refine g_aload_n X dX10_scanWord_130 rfl rfl ?_
    refine g_iload_n X dX10_scanWord_131 rfl rfl ?_
    refine g_aload_n X dX10_scanWord_132 rfl rfl ?_
    refine g_get (ci := 8) (v := vI (mI M5 x0 5)) 5 X cdX10 i_X10_scanWord_X10 (by decide) k_X10_scanWord_f37 rfl dX10_scanWord_133 rfl hT6 rfl ?_
    refine g_iload_n X dX10_scanWord_136 rfl rfl ?_
    refine g_isub X dX10_scanWord_137 ?_
    refine g_gets (w := vR (some (Z 40))) X (gSt_E X 40 (by decide)) k_X10_scanWord_f73 rfl dX10_scanWord_138 ?_
    obtain ⟨r8, M8, hq8, hf⟩ := bd_e hf
    refine g_callV (ci := 8) (b := x0) (As := [vI x2, vI ((mI M5 x0 5) - x2), vR (some (Z 40))]) (st := []) (v := some (vR r8)) (M1 := M8) X (m_X10_signOf l hq8) (cwV 3 X.2.2.1 gX10_scanWord_X10_signOf rfl rfl rfl (by decide +kernel) ⟨Nat.le_of_ble_eq_true rfl, Nat.le_of_ble_eq_true rfl⟩) rfl rfl rfl hT6 (by decide) rfl (Nat.le_of_ble_eq_true rfl) dX10_scanWord_141 ⟨by decide, by decide⟩ ?_
    refine g_sub (lvsub_of _ _ [] rfl) ?_
    exact t_X10_scanWord_144 X hr _ _ _ hf hK
  · have hf := ife_f hc hf
    refine g_gets (w := vR (some (Z 43))) X (gSt_E X 43 (by decide)) k_X10_scanWord_f47 rfl dX10_scanWord_124 ?_
    refine g_goto (tgt := 144) X dX10_scanWord_127 (by decide) ?_
    refine g_sub (lvsub_of _ _ [] rfl) ?_
    exact t_X10_scanWord_144 X hr _ _ _ hf hK
set_option maxHeartbeats 4000000 in
set_option maxRecDepth 100000 in
theorem t_X10_scanWord_81 (X : gX p s m args meth c D cy B (gSt Z B H0) RX10 cX10_scanWord wsX10_scanWord 6) (hr : meth.sig.returnType = (some (.object "TideLots$Sign"))) {Q : State → Prop} : ∀ (M : gMem) (x0 : Nat) (x1 : Int32) (x2 : Int32) (x3 : Int64) (s0 : Int32) (z : (gMem × Int64) ⊕ (Option Nat × gMem)), b_X10_scanWord_81 Z M x0 x1 x2 x3 s0 = some z → (Sum.elim (fun (q : gMem × Int64) => gGo p l e rX10_scanWord s m args below meth c D cy B H0 6 0 0 Q 7 [(0, vR (some x0)), (1, vI x1), (2, vI x2), (3, vJ q.2)] [] q.1) (fun (r : Option Nat × gMem) => Q = gMQ below D cy B H0 args s 0 0 (some (vR r.1)) r.2)) z → gGo p l e rX10_scanWord s m args below meth c D cy B H0 6 0 0 Q 81 [(0, vR (some x0)), (1, vI x1), (2, vI x2), (3, vJ x3)] [vI s0] M := by
  intro M x0 x1 x2 x3 s0 z hf hK
  unfold b_X10_scanWord_81 at hf
  refine g_istore (lv' := [(5, vI s0), (0, vR (some x0)), (1, vI x1), (2, vI x2), (3, vJ x3)]) X dX10_scanWord_81 (by decide) rfl ?_
  refine g_lload_n X dX10_scanWord_83 rfl rfl ?_
  refine g_ldc2 (v := (37 : Int64)) X k_X10_scanWord_c71 dX10_scanWord_84 ?_
  refine g_lmul X dX10_scanWord_87 ?_
  refine g_iload X dX10_scanWord_88 rfl ?_
  refine g_i2l X dX10_scanWord_90 ?_
  refine g_ladd X dX10_scanWord_91 ?_
  refine g_lstore_n (lv' := [(3, vJ ((x3 * (37 : Int64)) + (Int32.toInt64 s0))), (5, vI s0), (0, vR (some x0)), (1, vI x1), (2, vI x2)]) X dX10_scanWord_92 rfl (by decide) rfl ?_
  refine g_aload_n X dX10_scanWord_93 rfl rfl ?_
  refine g_dup X dX10_scanWord_94 rfl ?_
  obtain ⟨hT9, hf⟩ := ck_e hf
  refine g_get (ci := 8) (v := vI (mI M x0 5)) 5 X cdX10 i_X10_scanWord_X10 (by decide) k_X10_scanWord_f37 rfl dX10_scanWord_95 rfl hT9 rfl ?_
  refine g_iconst (v := (1 : Int32)) X dX10_scanWord_98 (by decide) ?_
  refine g_iadd X dX10_scanWord_99 ?_
  refine g_putI (ci := 8) 5 X cdX10 i_X10_scanWord_X10 (by decide) k_X10_scanWord_f37 rfl dX10_scanWord_100 rfl hT9 (Or.inl rfl) rfl rfl rfl ?_
  obtain ⟨M10, hM10, hf⟩ := lw_e hf
  rw [← hM10]
  have hT11 : mT M10 x0 = 9 := by rw [hM10]; exact hT9
  refine g_goto (tgt := 7) X dX10_scanWord_103 (by decide) ?_
  cases hf
  refine g_sub (lvsub_of _ _ [2, 3, 4, 0] rfl) ?_
  exact hK
set_option maxHeartbeats 4000000 in
set_option maxRecDepth 100000 in
theorem t_X10_scanWord_40 (X : gX p s m args meth c D cy B (gSt Z B H0) RX10 cX10_scanWord wsX10_scanWord 6) (hr : meth.sig.returnType = (some (.object "TideLots$Sign"))) {Q : State → Prop} : ∀ (M : gMem) (x0 : Nat) (x1 : Int32) (x2 : Int32) (x3 : Int64) (z : (gMem × Int64) ⊕ (Option Nat × gMem)), b_X10_scanWord_40 Z M x0 x1 x2 x3 = some z → (Sum.elim (fun (q : gMem × Int64) => gGo p l e rX10_scanWord s m args below meth c D cy B H0 6 0 0 Q 7 [(0, vR (some x0)), (1, vI x1), (2, vI x2), (3, vJ q.2)] [] q.1) (fun (r : Option Nat × gMem) => Q = gMQ below D cy B H0 args s 0 0 (some (vR r.1)) r.2)) z → gGo p l e rX10_scanWord s m args below meth c D cy B H0 6 0 0 Q 40 [(0, vR (some x0)), (1, vI x1), (2, vI x2), (3, vJ x3)] [] M := by
  intro M x0 x1 x2 x3 z hf hK
  unfold b_X10_scanWord_40 at hf
  refine g_aload_n X dX10_scanWord_40 rfl rfl ?_
  refine g_aload_n X dX10_scanWord_41 rfl rfl ?_
  obtain ⟨hT12, hf⟩ := ck_e hf
  refine g_get (ci := 8) (v := vI (mI M x0 5)) 5 X cdX10 i_X10_scanWord_X10 (by decide) k_X10_scanWord_f37 rfl dX10_scanWord_42 rfl hT12 rfl ?_
  obtain ⟨r13, M13, hq13, hf⟩ := bd_e hf
  refine g_callV (ci := 8) (b := x0) (As := [vI (mI M x0 5)]) (st := []) (v := some (vI r13)) (M1 := M13) X (m_X10_isLetter l hq13) (cwV 1 X.2.2.1 gX10_scanWord_X10_isLetter rfl rfl rfl (by decide +kernel) ⟨Nat.le_of_ble_eq_true rfl, Nat.le_of_ble_eq_true rfl⟩) rfl rfl rfl hT12 (by decide) rfl (Nat.le_of_ble_eq_true rfl) dX10_scanWord_45 ⟨by decide, by decide⟩ ?_
  refine g_if_eq (tgt := 68) X dX10_scanWord_48 (by decide) (fun hc => ?_) (fun hc => ?_)
  · have hf := ife_t hc hf
    refine g_aload_n X dX10_scanWord_68 rfl rfl ?_
    refine g_aload_n X dX10_scanWord_69 rfl rfl ?_
    obtain ⟨hT14, hf⟩ := ck_e hf
    refine g_get (ci := 8) (v := vI (mI M13 x0 5)) 5 X cdX10 i_X10_scanWord_X10 (by decide) k_X10_scanWord_f37 rfl dX10_scanWord_70 rfl hT14 rfl ?_
    obtain ⟨r15, M15, hq15, hf⟩ := bd_e hf
    refine g_callV (ci := 8) (b := x0) (As := [vI (mI M13 x0 5)]) (st := []) (v := some (vI r15)) (M1 := M15) X (m_X10_at l hq15) (cwV 1 X.2.2.1 gX10_scanWord_X10_at rfl rfl rfl (by decide +kernel) ⟨Nat.le_of_ble_eq_true rfl, Nat.le_of_ble_eq_true rfl⟩) rfl rfl rfl hT14 (by decide) rfl (Nat.le_of_ble_eq_true rfl) dX10_scanWord_73 ⟨by decide, by decide⟩ ?_
    refine g_bipush (v := (48 : Int32)) X dX10_scanWord_76 (by decide) ?_
    refine g_isub X dX10_scanWord_78 ?_
    refine g_iconst (v := (1 : Int32)) X dX10_scanWord_79 (by decide) ?_
    refine g_iadd X dX10_scanWord_80 ?_
    refine g_sub (lvsub_of _ _ [0, 1, 2, 3] rfl) ?_
    exact t_X10_scanWord_81 X hr _ _ _ _ _ _ _ hf hK
  · have hf := ife_f hc hf
    refine g_aload_n X dX10_scanWord_51 rfl rfl ?_
    refine g_aload_n X dX10_scanWord_52 rfl rfl ?_
    obtain ⟨hT16, hf⟩ := ck_e hf
    refine g_get (ci := 8) (v := vI (mI M13 x0 5)) 5 X cdX10 i_X10_scanWord_X10 (by decide) k_X10_scanWord_f37 rfl dX10_scanWord_53 rfl hT16 rfl ?_
    obtain ⟨r17, M17, hq17, hf⟩ := bd_e hf
    refine g_callV (ci := 8) (b := x0) (As := [vI (mI M13 x0 5)]) (st := []) (v := some (vI r17)) (M1 := M17) X (m_X10_at l hq17) (cwV 1 X.2.2.1 gX10_scanWord_X10_at rfl rfl rfl (by decide +kernel) ⟨Nat.le_of_ble_eq_true rfl, Nat.le_of_ble_eq_true rfl⟩) rfl rfl rfl hT16 (by decide) rfl (Nat.le_of_ble_eq_true rfl) dX10_scanWord_56 ⟨by decide, by decide⟩ ?_
    refine g_bipush (v := (97 : Int32)) X dX10_scanWord_59 (by decide) ?_
    refine g_isub X dX10_scanWord_61 ?_
    refine g_bipush (v := (11 : Int32)) X dX10_scanWord_62 (by decide) ?_
    refine g_iadd X dX10_scanWord_64 ?_
    refine g_goto (tgt := 81) X dX10_scanWord_65 (by decide) ?_
    refine g_sub (lvsub_of _ _ [0, 1, 2, 3] rfl) ?_
    exact t_X10_scanWord_81 X hr _ _ _ _ _ _ _ hf hK
set_option maxHeartbeats 4000000 in
set_option maxRecDepth 100000 in
theorem tb_X10_scanWord_7 (X : gX p s m args meth c D cy B (gSt Z B H0) RX10 cX10_scanWord wsX10_scanWord 6) (hr : meth.sig.returnType = (some (.object "TideLots$Sign"))) {Q : State → Prop} : ∀ (M : gMem) (x0 : Nat) (x1 : Int32) (x2 : Int32) (x3 : Int64) (z : (gMem × Int64) ⊕ (Option Nat × gMem)), bb_X10_scanWord_7 Z M x0 x1 x2 x3 = some z → (Sum.elim (fun (q : gMem × Int64) => gGo p l e rX10_scanWord s m args below meth c D cy B H0 6 0 0 Q 7 [(0, vR (some x0)), (1, vI x1), (2, vI x2), (3, vJ q.2)] [] q.1) (fun (r : Option Nat × gMem) => Q = gMQ below D cy B H0 args s 0 0 (some (vR r.1)) r.2)) z → gGo p l e rX10_scanWord s m args below meth c D cy B H0 6 0 0 Q 7 [(0, vR (some x0)), (1, vI x1), (2, vI x2), (3, vJ x3)] [] M := by
  intro M x0 x1 x2 x3 z hf hK
  unfold bb_X10_scanWord_7 at hf
  refine g_aload_n X dX10_scanWord_7 rfl rfl ?_
  obtain ⟨hT18, hf⟩ := ck_e hf
  refine g_get (ci := 8) (v := vI (mI M x0 5)) 5 X cdX10 i_X10_scanWord_X10 (by decide) k_X10_scanWord_f37 rfl dX10_scanWord_8 rfl hT18 rfl ?_
  refine g_aload_n X dX10_scanWord_11 rfl rfl ?_
  refine g_get (ci := 8) (v := vI (mI M x0 0)) 0 X cdX10 i_X10_scanWord_X10 (by decide) k_X10_scanWord_f33 rfl dX10_scanWord_12 rfl hT18 rfl ?_
  refine g_icmp_ge (tgt := 106) X dX10_scanWord_15 (by decide) (fun hc => ?_) (fun hc => ?_)
  · have hf := ife_t hc hf
    obtain ⟨w19, hw19, hz19⟩ := oI_e hf
    subst hz19
    have hf := hw19
    refine g_sub (lvsub_of _ _ [0, 1, 2, 3] rfl) ?_
    exact t_X10_scanWord_106 X hr _ _ _ _ _ _ hf hK
  · have hf := ife_f hc hf
    refine g_aload_n X dX10_scanWord_18 rfl rfl ?_
    refine g_aload_n X dX10_scanWord_19 rfl rfl ?_
    refine g_get (ci := 8) (v := vI (mI M x0 5)) 5 X cdX10 i_X10_scanWord_X10 (by decide) k_X10_scanWord_f37 rfl dX10_scanWord_20 rfl hT18 rfl ?_
    obtain ⟨r20, M20, hq20, hf⟩ := bd_e hf
    refine g_callV (ci := 8) (b := x0) (As := [vI (mI M x0 5)]) (st := []) (v := some (vI r20)) (M1 := M20) X (m_X10_isLetter l hq20) (cwV 1 X.2.2.1 gX10_scanWord_X10_isLetter rfl rfl rfl (by decide +kernel) ⟨Nat.le_of_ble_eq_true rfl, Nat.le_of_ble_eq_true rfl⟩) rfl rfl rfl hT18 (by decide) rfl (Nat.le_of_ble_eq_true rfl) dX10_scanWord_23 ⟨by decide, by decide⟩ ?_
    refine g_if_ne (tgt := 40) X dX10_scanWord_26 (by decide) (fun hc => ?_) (fun hc => ?_)
    · have hf := ife_f hc hf
      refine g_sub (lvsub_of _ _ [0, 1, 2, 3] rfl) ?_
      exact t_X10_scanWord_40 X hr _ _ _ _ _ _ hf hK
    · have hf := ife_t hc hf
      refine g_aload_n X dX10_scanWord_29 rfl rfl ?_
      refine g_aload_n X dX10_scanWord_30 rfl rfl ?_
      obtain ⟨hT21, hf⟩ := ck_e hf
      refine g_get (ci := 8) (v := vI (mI M20 x0 5)) 5 X cdX10 i_X10_scanWord_X10 (by decide) k_X10_scanWord_f37 rfl dX10_scanWord_31 rfl hT21 rfl ?_
      obtain ⟨r22, M22, hq22, hf⟩ := bd_e hf
      refine g_callV (ci := 8) (b := x0) (As := [vI (mI M20 x0 5)]) (st := []) (v := some (vI r22)) (M1 := M22) X (m_X10_isDigit l hq22) (cwV 1 X.2.2.1 gX10_scanWord_X10_isDigit rfl rfl rfl (by decide +kernel) ⟨Nat.le_of_ble_eq_true rfl, Nat.le_of_ble_eq_true rfl⟩) rfl rfl rfl hT21 (by decide) rfl (Nat.le_of_ble_eq_true rfl) dX10_scanWord_34 ⟨by decide, by decide⟩ ?_
      refine g_if_eq (tgt := 106) X dX10_scanWord_37 (by decide) (fun hc => ?_) (fun hc => ?_)
      · have hf := ife_t hc hf
        obtain ⟨w23, hw23, hz23⟩ := oI_e hf
        subst hz23
        have hf := hw23
        refine g_sub (lvsub_of _ _ [0, 1, 2, 3] rfl) ?_
        exact t_X10_scanWord_106 X hr _ _ _ _ _ _ hf hK
      · have hf := ife_f hc hf
        refine g_sub (lvsub_of _ _ [0, 1, 2, 3] rfl) ?_
        exact t_X10_scanWord_40 X hr _ _ _ _ _ _ hf hK
set_option maxHeartbeats 4000000 in
set_option maxRecDepth 100000 in
theorem tl_X10_scanWord_7 (X : gX p s m args meth c D cy B (gSt Z B H0) RX10 cX10_scanWord wsX10_scanWord 6) (hr : meth.sig.returnType = (some (.object "TideLots$Sign"))) {Q : State → Prop} : ∀ (M : gMem) (x0 : Nat) (x1 : Int32) (x2 : Int32) (x3 : Int64) (z : Option Nat × gMem), lp_X10_scanWord_7 Z M x0 x1 x2 x3 = some z → (fun (r : Option Nat × gMem) => Q = gMQ below D cy B H0 args s 0 0 (some (vR r.1)) r.2) z → gGo p l e rX10_scanWord s m args below meth c D cy B H0 6 0 0 Q 7 [(0, vR (some x0)), (1, vI x1), (2, vI x2), (3, vJ x3)] [] M := by
  intro M x0 x1 x2 x3 z hf hK
  refine lp_ind (P := (fun (q : gMem × Int64) (z : Option Nat × gMem) => (fun (r : Option Nat × gMem) => Q = gMQ below D cy B H0 args s 0 0 (some (vR r.1)) r.2) z → gGo p l e rX10_scanWord s m args below meth c D cy B H0 6 0 0 Q 7 [(0, vR (some x0)), (1, vI x1), (2, vI x2), (3, vJ q.2)] [] q.1)) (fun q z hq => ?_) _ _ hf hK
  intro hK
  obtain ⟨w, hw, hm⟩ := hq
  refine tb_X10_scanWord_7 X hr _ _ _ _ _ w hw ?_
  cases w with
  | inl a => exact hm hK
  | inr b => cases hm; exact hK
set_option maxHeartbeats 4000000 in
set_option maxRecDepth 100000 in
theorem t_X10_scanWord_0 (X : gX p s m args meth c D cy B (gSt Z B H0) RX10 cX10_scanWord wsX10_scanWord 6) (hr : meth.sig.returnType = (some (.object "TideLots$Sign"))) {Q : State → Prop} : ∀ (M : gMem) (x0 : Nat) (x1 : Int32) (z : Option Nat × gMem), b_X10_scanWord_0 Z M x0 x1 = some z → (fun (r : Option Nat × gMem) => Q = gMQ below D cy B H0 args s 0 0 (some (vR r.1)) r.2) z → gGo p l e rX10_scanWord s m args below meth c D cy B H0 6 0 0 Q 0 [(0, vR (some x0)), (1, vI x1)] [] M := by
  intro M x0 x1 z hf hK
  unfold b_X10_scanWord_0 at hf
  refine g_aload_n X dX10_scanWord_0 rfl rfl ?_
  obtain ⟨hT24, hf⟩ := ck_e hf
  refine g_get (ci := 8) (v := vI (mI M x0 5)) 5 X cdX10 i_X10_scanWord_X10 (by decide) k_X10_scanWord_f37 rfl dX10_scanWord_1 rfl hT24 rfl ?_
  refine g_istore_n (lv' := [(2, vI (mI M x0 5)), (0, vR (some x0)), (1, vI x1)]) X dX10_scanWord_4 rfl (by decide) rfl ?_
  refine g_lconst (v := (0 : Int64)) X dX10_scanWord_5 (by decide) ?_
  refine g_lstore_n (lv' := [(3, vJ (0 : Int64)), (2, vI (mI M x0 5)), (0, vR (some x0)), (1, vI x1)]) X dX10_scanWord_6 rfl (by decide) rfl ?_
  refine g_sub (lvsub_of _ _ [2, 3, 1, 0] rfl) ?_
  exact tl_X10_scanWord_7 X hr _ _ _ _ _ _ hf hK
set_option maxHeartbeats 4000000 in
set_option maxRecDepth 100000 in
theorem m_X10_scanWord (l : Launch) {D : va_G} {cy : Nat → ClassId} {B : Nat} {H0 : Heap} {Z : Nat → Nat} {M M1 : gMem} {x0 : Nat} {x1 : Int32} {r : Option Nat} (hf : f_X10_scanWord Z M x0 x1 = some (r, M1)) : Met l yX10_scanWord wsX10_scanWord rX10_scanWord (va_Pc (Value.ref x0 :: List.map gv [vI x1]) (gPre D cy B H0 (gSt Z B H0) M)) (gQ D cy B H0 (some (vR r)) M1) 0 0 (gA B) := by
  refine Met.ofW (cc := cX10_scanWord) (maxL := 6) (ret := (some (.object "TideLots$Sign"))) (by decide) rfl ?_
  intro p e s m args below meth c s₁ Bd hml hv
  obtain ⟨rfl, hW, hKK, hFs⟩ := hv
  have X : gX p s m _ meth c D cy B (gSt Z B H0) RX10 cX10_scanWord wsX10_scanWord 6 := ⟨Bd.exec, Bd.bytes, atoms_spec (ws := wsX10_scanWord) Bd.pre, findClass_of_methodNamed Bd.named, hml, hKK, by rw [hW.1]; exact hW.2.1, Bd.notSynchronized, hFs⟩
  have hr := Bd.returns
  have hl := lv_entry ([.ref x0, .int x1]) (n := 6) (Nat.le_of_ble_eq_true rfl)
  show W p l e rX10_scanWord s m _ below meth c s.heap [] 0 0 _ (entryFrame m ([.ref x0, .int x1] : List Value).toArray 6)
  rw [lg_entry_eq]
  generalize (lg_sl ([.ref x0, .int x1]) ++ List.replicate (6 - (lg_sl ([.ref x0, .int x1])).length) Slot.unset).toArray = ls at hl ⊢
  have hl : lv_has ls 6 (List.map gq [(0, vR (some x0)), (1, vI x1)]) := hl
  exact t_X10_scanWord_0 X hr _ _ _ _ hf rfl s.heap [] ls hW va_S.rf (lv_has_sub hl (lvsub_of _ _ [0, 1] rfl))
end
