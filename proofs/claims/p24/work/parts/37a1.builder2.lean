section
variable {p : Program} {l : Launch} {e : Env} {s : State} {m : MethodId} {args : Array Value} {below : List Frame} {meth : Method} {c : Code} {D : va_G} {cy : Nat → ClassId} {B : Nat} {H0 : Heap} {Z : Nat → Nat}
/-! ## java/lang/StringBuilder.append(Ljava/lang/String;)Ljava/lang/StringBuilder; -/
theorem dJ4_append_15ec4_0 : decode cJ4_append_15ec4 0 = .ok (.aload_n 0, 1) := by decide +kernel
theorem dJ4_append_15ec4_1 : decode cJ4_append_15ec4 1 = .ok (.aload_n 1, 1) := by decide +kernel
theorem dJ4_append_15ec4_2 : decode cJ4_append_15ec4 2 = .ok (.invokespecial 29, 3) := by decide +kernel
theorem dJ4_append_15ec4_5 : decode cJ4_append_15ec4 5 = .ok (.pop, 1) := by decide +kernel
theorem dJ4_append_15ec4_6 : decode cJ4_append_15ec4 6 = .ok (.aload_n 0, 1) := by decide +kernel
theorem dJ4_append_15ec4_7 : decode cJ4_append_15ec4 7 = .ok (.areturn, 1) := by decide +kernel
set_option maxRecDepth 20000 in
theorem ggJ4_append_15ec4_J5_append_cf1ce_c : GoodIn wsJ4_append_15ec4 [.code yJ5_append_cf1ce cJ5_append_cf1ce 3 (some (.object "java/lang/AbstractStringBuilder"))] := goodIn_r _ [6] (by decide +kernel) (by decide +kernel)
set_option maxRecDepth 20000 in
theorem ggJ4_append_15ec4_J5_append_cf1ce_wsJ5_append_cf1ce_r1 : GoodIn wsJ4_append_15ec4 wsJ5_append_cf1ce_r1 := goodIn_r _ [7, 8, 9, 10, 11, 5, 12, 13, 14, 15, 16, 17, 18, 19, 20, 21, 22, 23, 24, 25, 26, 27, 28, 29] (by decide +kernel) (by decide +kernel)
set_option maxRecDepth 20000 in
theorem ggJ4_append_15ec4_J5_append_cf1ce_wsJ5_append_cf1ce_r2 : GoodIn wsJ4_append_15ec4 wsJ5_append_cf1ce_r2 := goodIn_r _ [30, 31, 32, 33, 34, 35, 36, 37, 38, 39, 40, 41, 42, 43, 44, 45, 46, 47, 48, 49, 50, 51, 52, 53] (by decide +kernel) (by decide +kernel)
set_option maxRecDepth 20000 in
theorem ggJ4_append_15ec4_J5_append_cf1ce_wsJ5_append_cf1ce_r3 : GoodIn wsJ4_append_15ec4 wsJ5_append_cf1ce_r3 := goodIn_r _ [54, 55, 56, 57, 58, 59, 60, 61, 62, 63, 64, 65, 66, 67, 68, 69, 70, 71, 72, 73, 74, 75, 76, 77] (by decide +kernel) (by decide +kernel)
set_option maxRecDepth 20000 in
theorem ggJ4_append_15ec4_J5_append_cf1ce_wsJ5_append_cf1ce_r4 : GoodIn wsJ4_append_15ec4 wsJ5_append_cf1ce_r4 := goodIn_r _ [78, 79, 80, 81, 82, 83, 84, 85, 86, 87, 88, 89, 90, 91, 92, 93, 94, 95, 96, 97, 98, 99, 100, 101] (by decide +kernel) (by decide +kernel)
set_option maxRecDepth 20000 in
theorem ggJ4_append_15ec4_J5_append_cf1ce_wsJ5_append_cf1ce_r5 : GoodIn wsJ4_append_15ec4 wsJ5_append_cf1ce_r5 := goodIn_r _ [102, 103, 104, 105, 106, 107, 108, 109, 110, 111, 112, 113, 114, 115, 116, 117, 118, 119, 120, 121, 122, 123, 124, 125] (by decide +kernel) (by decide +kernel)
set_option maxRecDepth 20000 in
theorem ggJ4_append_15ec4_J5_append_cf1ce_wsJ5_append_cf1ce_r6 : GoodIn wsJ4_append_15ec4 wsJ5_append_cf1ce_r6 := goodIn_r _ [126, 127, 128, 129, 130, 131, 132, 133, 134, 135, 136, 137, 138, 139, 140, 141, 142] (by decide +kernel) (by decide +kernel)
set_option maxRecDepth 20000 in
theorem ggJ4_append_15ec4_J5_append_cf1ce_wsJ40 : GoodIn wsJ4_append_15ec4 wsJ40 := goodIn_sub (by decide +kernel) (by decide +kernel)
set_option maxRecDepth 20000 in
theorem ggJ4_append_15ec4_J5_append_cf1ce_wsJ00 : GoodIn wsJ4_append_15ec4 wsJ00 := goodIn_sub (by decide +kernel) (by decide +kernel)
set_option maxRecDepth 20000 in
theorem ggJ4_append_15ec4_J5_append_cf1ce : GoodIn wsJ4_append_15ec4 wsJ5_append_cf1ce := goodIn_c1 ggJ4_append_15ec4_J5_append_cf1ce_c (goodIn_app (goodIn_app (goodIn_app ggJ4_append_15ec4_J5_append_cf1ce_wsJ5_append_cf1ce_r1 (goodIn_app ggJ4_append_15ec4_J5_append_cf1ce_wsJ5_append_cf1ce_r2 (goodIn_app ggJ4_append_15ec4_J5_append_cf1ce_wsJ5_append_cf1ce_r3 (goodIn_app ggJ4_append_15ec4_J5_append_cf1ce_wsJ5_append_cf1ce_r4 (goodIn_app ggJ4_append_15ec4_J5_append_cf1ce_wsJ5_append_cf1ce_r5 ggJ4_append_15ec4_J5_append_cf1ce_wsJ5_append_cf1ce_r6))))) ggJ4_append_15ec4_J5_append_cf1ce_wsJ40) ggJ4_append_15ec4_J5_append_cf1ce_wsJ00)
set_option maxRecDepth 20000 in
theorem gJ4_append_15ec4_J5_append_cf1ce_s29 : GoodIn wsJ4_append_15ec4 (va_wsSU RJ4 29 yJ5_append_cf1ce wsJ5_append_cf1ce) := goodIn_app (goodIn_of _ (by decide +kernel)) ggJ4_append_15ec4_J5_append_cf1ce
abbrev rJ4_append_15ec4_S : Room := { frames := 5, cells := 1, slots := 2400, locals := 127 }
noncomputable def b_J4_append_15ec4_S_0 (Z : Nat → Nat) (M : gMem) (x0 : Nat) (x1 : Nat) : Option (Option Nat × gMem) :=
  ck (mT M x0 = 13) <| bd (f_J5_append_cf1ce_S Z M x0 x1) fun r1 M1 => some ((some x0), M1)
noncomputable def f_J4_append_15ec4_S (Z : Nat → Nat) (M : gMem) (x0 : Nat) (x1 : Nat) : Option (Option Nat × gMem) :=
  b_J4_append_15ec4_S_0 Z M x0 x1
set_option maxHeartbeats 4000000 in
set_option maxRecDepth 100000 in
theorem t_J4_append_15ec4_S_0 (X2 : gX p s m args meth c D cy B (gSt2 Z B H0) RJ4 cJ4_append_15ec4 wsJ4_append_15ec4 2) (hr : meth.sig.returnType = (some (.object "java/lang/StringBuilder"))) {Q : State → Prop} : ∀ (M : gMem) (x0 : Nat) (x1 : Nat) (z : Option Nat × gMem), b_J4_append_15ec4_S_0 Z M x0 x1 = some z → (fun (r : Option Nat × gMem) => Q = gMQ below D cy B H0 args s 1 2400 (some (vR r.1)) r.2) z → gGo p l e rJ4_append_15ec4_S s m args below meth c D cy B H0 2 0 0 Q 0 [(0, vR (some x0)), (1, vR (some (Z (100 + x1))))] [] M := by
  intro M x0 x1 z hf hK
  unfold b_J4_append_15ec4_S_0 at hf
  have X := gX_w X2
  refine g_aload_n X dJ4_append_15ec4_0 rfl rfl ?_
  refine g_aload_n X dJ4_append_15ec4_1 rfl rfl ?_
  obtain ⟨hT2, hf⟩ := ck_e hf
  obtain ⟨r1, M1, hq1, hf⟩ := bd_e hf
  refine g_callSU (ci := 12) (b := x0) (As := [vR (some (Z (100 + x1)))]) (st := []) (v := some (vR r1)) (M1 := M1) X2 (m_J5_append_cf1ce_S l hq1) (va_cwSU 1 X.2.2.1 gJ4_append_15ec4_J5_append_cf1ce_s29 rfl rfl rfl (by decide +kernel) ⟨Nat.le_of_ble_eq_true rfl, Nat.le_of_ble_eq_true rfl⟩) rfl rfl rfl hT2 (by decide) rfl (Nat.le_of_ble_eq_true rfl) dJ4_append_15ec4_2 ⟨by decide, by decide⟩ ?_
  refine g_pop X dJ4_append_15ec4_5 rfl ?_
  refine g_aload_n X dJ4_append_15ec4_6 rfl rfl ?_
  cases hf
  refine g_eqQ hK ?_
  exact g_aret X hr (Or.inl ⟨_, rfl⟩) dJ4_append_15ec4_7
set_option maxHeartbeats 4000000 in
set_option maxRecDepth 100000 in
theorem m_J4_append_15ec4_S (l : Launch) {D : va_G} {cy : Nat → ClassId} {B : Nat} {H0 : Heap} {Z : Nat → Nat} {M M1 : gMem} {x0 : Nat} {x1 : Nat} {r : Option Nat} (hf : f_J4_append_15ec4_S Z M x0 x1 = some (r, M1)) : Met l yJ4_append_15ec4 wsJ4_append_15ec4 rJ4_append_15ec4_S (va_Pc (Value.ref x0 :: List.map gv [vR (some (Z (100 + x1)))]) (gPre D cy B H0 (gSt2 Z B H0) M)) (gQ D cy B H0 (some (vR r)) M1) 1 2400 (gA B) := by
  refine Met.ofW (cc := cJ4_append_15ec4) (maxL := 2) (ret := (some (.object "java/lang/StringBuilder"))) (by decide) rfl ?_
  intro p e s m args below meth c s₁ Bd hml hv
  obtain ⟨rfl, hW, hKK, hFs⟩ := hv
  have X2 : gX p s m _ meth c D cy B (gSt2 Z B H0) RJ4 cJ4_append_15ec4 wsJ4_append_15ec4 2 := ⟨Bd.exec, Bd.bytes, atoms_spec (ws := wsJ4_append_15ec4) Bd.pre, findClass_of_methodNamed Bd.named, hml, hKK, by rw [hW.1]; exact hW.2.1, Bd.notSynchronized, hFs⟩
  have hr := Bd.returns
  have hl := lv_entry ([.ref x0, .ref (Z (100 + x1))]) (n := 2) (Nat.le_of_ble_eq_true rfl)
  show W p l e rJ4_append_15ec4_S s m _ below meth c s.heap [] 0 0 _ (entryFrame m ([.ref x0, .ref (Z (100 + x1))] : List Value).toArray 2)
  rw [lg_entry_eq]
  generalize (lg_sl ([.ref x0, .ref (Z (100 + x1))]) ++ List.replicate (2 - (lg_sl ([.ref x0, .ref (Z (100 + x1))])).length) Slot.unset).toArray = ls at hl ⊢
  have hl : lv_has ls 2 (List.map gq [(0, vR (some x0)), (1, vR (some (Z (100 + x1))))]) := hl
  exact t_J4_append_15ec4_S_0 X2 hr _ _ _ _ hf rfl s.heap [] ls hW va_S.rf (lv_has_sub hl (lvsub_of _ _ [0, 1] rfl))
/-! ## java/lang/StringBuilder.append(Ljava/lang/String;)Ljava/lang/StringBuilder; -/
abbrev rJ4_append_15ec4_r : Room := { frames := 5, cells := 1, slots := 2400, locals := 127 }
noncomputable def b_J4_append_15ec4_r_0 (Z : Nat → Nat) (M : gMem) (x0 : Nat) (x1 : Option Nat) : Option (Option Nat × gMem) :=
  ck (mT M x0 = 13) <| bd (f_J5_append_cf1ce_r Z M x0 x1) fun r1 M1 => some ((some x0), M1)
noncomputable def f_J4_append_15ec4_r (Z : Nat → Nat) (M : gMem) (x0 : Nat) (x1 : Option Nat) : Option (Option Nat × gMem) :=
  b_J4_append_15ec4_r_0 Z M x0 x1
set_option maxHeartbeats 4000000 in
set_option maxRecDepth 100000 in
theorem t_J4_append_15ec4_r_0 (X2 : gX p s m args meth c D cy B (gSt2 Z B H0) RJ4 cJ4_append_15ec4 wsJ4_append_15ec4 2) (hr : meth.sig.returnType = (some (.object "java/lang/StringBuilder"))) {Q : State → Prop} : ∀ (M : gMem) (x0 : Nat) (x1 : Option Nat) (z : Option Nat × gMem), b_J4_append_15ec4_r_0 Z M x0 x1 = some z → (fun (r : Option Nat × gMem) => Q = gMQ below D cy B H0 args s 1 2400 (some (vR r.1)) r.2) z → gGo p l e rJ4_append_15ec4_r s m args below meth c D cy B H0 2 0 0 Q 0 [(0, vR (some x0)), (1, vR x1)] [] M := by
  intro M x0 x1 z hf hK
  unfold b_J4_append_15ec4_r_0 at hf
  have X := gX_w X2
  refine g_aload_n X dJ4_append_15ec4_0 rfl rfl ?_
  refine g_aload_n X dJ4_append_15ec4_1 rfl rfl ?_
  obtain ⟨hT2, hf⟩ := ck_e hf
  obtain ⟨r1, M1, hq1, hf⟩ := bd_e hf
  refine g_callSU (ci := 12) (b := x0) (As := [vR x1]) (st := []) (v := some (vR r1)) (M1 := M1) X2 (m_J5_append_cf1ce_r l hq1) (va_cwSU 1 X.2.2.1 gJ4_append_15ec4_J5_append_cf1ce_s29 rfl rfl rfl (by decide +kernel) ⟨Nat.le_of_ble_eq_true rfl, Nat.le_of_ble_eq_true rfl⟩) rfl rfl rfl hT2 (by decide) rfl (Nat.le_of_ble_eq_true rfl) dJ4_append_15ec4_2 ⟨by decide, by decide⟩ ?_
  refine g_pop X dJ4_append_15ec4_5 rfl ?_
  refine g_aload_n X dJ4_append_15ec4_6 rfl rfl ?_
  cases hf
  refine g_eqQ hK ?_
  exact g_aret X hr (Or.inl ⟨_, rfl⟩) dJ4_append_15ec4_7
set_option maxHeartbeats 4000000 in
set_option maxRecDepth 100000 in
theorem m_J4_append_15ec4_r (l : Launch) {D : va_G} {cy : Nat → ClassId} {B : Nat} {H0 : Heap} {Z : Nat → Nat} {M M1 : gMem} {x0 : Nat} {x1 : Option Nat} {r : Option Nat} (hf : f_J4_append_15ec4_r Z M x0 x1 = some (r, M1)) : Met l yJ4_append_15ec4 wsJ4_append_15ec4 rJ4_append_15ec4_r (va_Pc (Value.ref x0 :: List.map gv [vR x1]) (gPre D cy B H0 (gSt2 Z B H0) M)) (gQ D cy B H0 (some (vR r)) M1) 1 2400 (gA B) := by
  refine Met.ofW (cc := cJ4_append_15ec4) (maxL := 2) (ret := (some (.object "java/lang/StringBuilder"))) (by decide) rfl ?_
  intro p e s m args below meth c s₁ Bd hml hv
  obtain ⟨rfl, hW, hKK, hFs⟩ := hv
  have X2 : gX p s m _ meth c D cy B (gSt2 Z B H0) RJ4 cJ4_append_15ec4 wsJ4_append_15ec4 2 := ⟨Bd.exec, Bd.bytes, atoms_spec (ws := wsJ4_append_15ec4) Bd.pre, findClass_of_methodNamed Bd.named, hml, hKK, by rw [hW.1]; exact hW.2.1, Bd.notSynchronized, hFs⟩
  have hr := Bd.returns
  rcases x1 with _ | x1
  · have hl := lv_entry ([.ref x0, .null]) (n := 2) (Nat.le_of_ble_eq_true rfl)
    show W p l e rJ4_append_15ec4_r s m _ below meth c s.heap [] 0 0 _ (entryFrame m ([.ref x0, .null] : List Value).toArray 2)
    rw [lg_entry_eq]
    generalize (lg_sl ([.ref x0, .null]) ++ List.replicate (2 - (lg_sl ([.ref x0, .null])).length) Slot.unset).toArray = ls at hl ⊢
    have hl : lv_has ls 2 (List.map gq [(0, vR (some x0)), (1, vR none)]) := hl
    exact t_J4_append_15ec4_r_0 X2 hr _ _ _ _ hf rfl s.heap [] ls hW va_S.rf (lv_has_sub hl (lvsub_of _ _ [0, 1] rfl))
  · have hl := lv_entry ([.ref x0, .ref x1]) (n := 2) (Nat.le_of_ble_eq_true rfl)
    show W p l e rJ4_append_15ec4_r s m _ below meth c s.heap [] 0 0 _ (entryFrame m ([.ref x0, .ref x1] : List Value).toArray 2)
    rw [lg_entry_eq]
    generalize (lg_sl ([.ref x0, .ref x1]) ++ List.replicate (2 - (lg_sl ([.ref x0, .ref x1])).length) Slot.unset).toArray = ls at hl ⊢
    have hl : lv_has ls 2 (List.map gq [(0, vR (some x0)), (1, vR (some x1))]) := hl
    exact t_J4_append_15ec4_r_0 X2 hr _ _ _ _ hf rfl s.heap [] ls hW va_S.rf (lv_has_sub hl (lvsub_of _ _ [0, 1] rfl))
/-! ## java/lang/Integer.stringSize(I)I -/
theorem dJ6_stringSize_0f7a4_0 : decode cJ6_stringSize_0f7a4 0 = .ok (.iconst 1, 1) := by decide +kernel
theorem dJ6_stringSize_0f7a4_1 : decode cJ6_stringSize_0f7a4 1 = .ok (.istore_n 1, 1) := by decide +kernel
theorem dJ6_stringSize_0f7a4_2 : decode cJ6_stringSize_0f7a4 2 = .ok (.iload_n 0, 1) := by decide +kernel
theorem dJ6_stringSize_0f7a4_3 : decode cJ6_stringSize_0f7a4 3 = .ok (.ifCond .lt 8, 3) := by decide +kernel
theorem dJ6_stringSize_0f7a4_6 : decode cJ6_stringSize_0f7a4 6 = .ok (.iconst 0, 1) := by decide +kernel
theorem dJ6_stringSize_0f7a4_7 : decode cJ6_stringSize_0f7a4 7 = .ok (.istore_n 1, 1) := by decide +kernel
theorem dJ6_stringSize_0f7a4_8 : decode cJ6_stringSize_0f7a4 8 = .ok (.iload_n 0, 1) := by decide +kernel
theorem dJ6_stringSize_0f7a4_9 : decode cJ6_stringSize_0f7a4 9 = .ok (.ineg, 1) := by decide +kernel
theorem dJ6_stringSize_0f7a4_10 : decode cJ6_stringSize_0f7a4 10 = .ok (.istore_n 0, 1) := by decide +kernel
theorem dJ6_stringSize_0f7a4_11 : decode cJ6_stringSize_0f7a4 11 = .ok (.bipush (-10), 2) := by decide +kernel
theorem dJ6_stringSize_0f7a4_13 : decode cJ6_stringSize_0f7a4 13 = .ok (.istore_n 2, 1) := by decide +kernel
theorem dJ6_stringSize_0f7a4_14 : decode cJ6_stringSize_0f7a4 14 = .ok (.iconst 1, 1) := by decide +kernel
theorem dJ6_stringSize_0f7a4_15 : decode cJ6_stringSize_0f7a4 15 = .ok (.istore_n 3, 1) := by decide +kernel
theorem dJ6_stringSize_0f7a4_16 : decode cJ6_stringSize_0f7a4 16 = .ok (.iload_n 3, 1) := by decide +kernel
theorem dJ6_stringSize_0f7a4_17 : decode cJ6_stringSize_0f7a4 17 = .ok (.bipush 10, 2) := by decide +kernel
theorem dJ6_stringSize_0f7a4_19 : decode cJ6_stringSize_0f7a4 19 = .ok (.if_icmp .ge 23, 3) := by decide +kernel
theorem dJ6_stringSize_0f7a4_22 : decode cJ6_stringSize_0f7a4 22 = .ok (.iload_n 0, 1) := by decide +kernel
theorem dJ6_stringSize_0f7a4_23 : decode cJ6_stringSize_0f7a4 23 = .ok (.iload_n 2, 1) := by decide +kernel
theorem dJ6_stringSize_0f7a4_24 : decode cJ6_stringSize_0f7a4 24 = .ok (.if_icmp .le 7, 3) := by decide +kernel
theorem dJ6_stringSize_0f7a4_27 : decode cJ6_stringSize_0f7a4 27 = .ok (.iload_n 3, 1) := by decide +kernel
theorem dJ6_stringSize_0f7a4_28 : decode cJ6_stringSize_0f7a4 28 = .ok (.iload_n 1, 1) := by decide +kernel
theorem dJ6_stringSize_0f7a4_29 : decode cJ6_stringSize_0f7a4 29 = .ok (.iadd, 1) := by decide +kernel
theorem dJ6_stringSize_0f7a4_30 : decode cJ6_stringSize_0f7a4 30 = .ok (.ireturn, 1) := by decide +kernel
theorem dJ6_stringSize_0f7a4_31 : decode cJ6_stringSize_0f7a4 31 = .ok (.bipush 10, 2) := by decide +kernel
theorem dJ6_stringSize_0f7a4_33 : decode cJ6_stringSize_0f7a4 33 = .ok (.iload_n 2, 1) := by decide +kernel
theorem dJ6_stringSize_0f7a4_34 : decode cJ6_stringSize_0f7a4 34 = .ok (.imul, 1) := by decide +kernel
theorem dJ6_stringSize_0f7a4_35 : decode cJ6_stringSize_0f7a4 35 = .ok (.istore_n 2, 1) := by decide +kernel
theorem dJ6_stringSize_0f7a4_36 : decode cJ6_stringSize_0f7a4 36 = .ok (.iinc 3 1, 3) := by decide +kernel
theorem dJ6_stringSize_0f7a4_39 : decode cJ6_stringSize_0f7a4 39 = .ok (.goto (-23), 3) := by decide +kernel
theorem dJ6_stringSize_0f7a4_42 : decode cJ6_stringSize_0f7a4 42 = .ok (.bipush 10, 2) := by decide +kernel
theorem dJ6_stringSize_0f7a4_44 : decode cJ6_stringSize_0f7a4 44 = .ok (.iload_n 1, 1) := by decide +kernel
theorem dJ6_stringSize_0f7a4_45 : decode cJ6_stringSize_0f7a4 45 = .ok (.iadd, 1) := by decide +kernel
theorem dJ6_stringSize_0f7a4_46 : decode cJ6_stringSize_0f7a4 46 = .ok (.ireturn, 1) := by decide +kernel
abbrev rJ6_stringSize_0f7a4 : Room := { frames := 0, cells := 0, slots := 0, locals := 0 }
noncomputable def bb_J6_stringSize_0f7a4_16 (M : gMem) (x0 : Int32) (x1 : Int32) (x2 : Int32) (x3 : Int32) : Option ((gMem × Int32 × Int32) ⊕ (Int32 × gMem)) :=
  (if (10 : Int32) ≤ x3 then oI (some (((10 : Int32) + x1), M)) else (if x0 ≤ x2 then some (.inl (M, ((10 : Int32) * x2), (x3 + (1 : Int32)))) else oI (some ((x3 + x1), M))))
noncomputable def lp_J6_stringSize_0f7a4_16 (M : gMem) (x0 : Int32) (x1 : Int32) (x2 : Int32) (x3 : Int32) : Option (Int32 × gMem) :=
  lp (fun (q : gMem × Int32 × Int32) => bb_J6_stringSize_0f7a4_16 q.1 x0 x1 q.2.1 q.2.2) (M, x2, x3)
noncomputable def b_J6_stringSize_0f7a4_11 (M : gMem) (x0 : Int32) (x1 : Int32) : Option (Int32 × gMem) :=
  lp_J6_stringSize_0f7a4_16 M x0 x1 ((-10 : Int32)) ((1 : Int32))
noncomputable def b_J6_stringSize_0f7a4_0 (M : gMem) (x0 : Int32) : Option (Int32 × gMem) :=
  (if x0 < 0 then b_J6_stringSize_0f7a4_11 M x0 ((1 : Int32)) else b_J6_stringSize_0f7a4_11 M ((-x0)) ((0 : Int32)))
noncomputable def f_J6_stringSize_0f7a4 (M : gMem) (x0 : Int32) : Option (Int32 × gMem) :=
  b_J6_stringSize_0f7a4_0 M x0
set_option maxHeartbeats 4000000 in
set_option maxRecDepth 100000 in
theorem tb_J6_stringSize_0f7a4_16 (X : gX p s m args meth c D cy B (gSt Z B H0) RJ6 cJ6_stringSize_0f7a4 wsJ6_stringSize_0f7a4 4) (hr : meth.sig.returnType = (some .int)) {Q : State → Prop} : ∀ (M : gMem) (x0 : Int32) (x1 : Int32) (x2 : Int32) (x3 : Int32) (z : (gMem × Int32 × Int32) ⊕ (Int32 × gMem)), bb_J6_stringSize_0f7a4_16 M x0 x1 x2 x3 = some z → (Sum.elim (fun (q : gMem × Int32 × Int32) => gGo p l e rJ6_stringSize_0f7a4 s m args below meth c D cy B H0 4 0 0 Q 16 [(0, vI x0), (1, vI x1), (2, vI q.2.1), (3, vI q.2.2)] [] q.1) (fun (r : Int32 × gMem) => Q = gMQ below D cy B H0 args s 0 0 (some (vI r.1)) r.2)) z → gGo p l e rJ6_stringSize_0f7a4 s m args below meth c D cy B H0 4 0 0 Q 16 [(0, vI x0), (1, vI x1), (2, vI x2), (3, vI x3)] [] M := by
  intro M x0 x1 x2 x3 z hf hK
  unfold bb_J6_stringSize_0f7a4_16 at hf
  refine g_iload_n X dJ6_stringSize_0f7a4_16 rfl rfl ?_
  refine g_bipush (v := (10 : Int32)) X dJ6_stringSize_0f7a4_17 (by decide) ?_
  refine g_icmp_ge (tgt := 42) X dJ6_stringSize_0f7a4_19 (by decide) (fun hc => ?_) (fun hc => ?_)
  · have hf := ife_t hc hf
    refine g_bipush (v := (10 : Int32)) X dJ6_stringSize_0f7a4_42 (by decide) ?_
    refine g_iload_n X dJ6_stringSize_0f7a4_44 rfl rfl ?_
    refine g_iadd X dJ6_stringSize_0f7a4_45 ?_
    obtain ⟨w1, hw1, hz1⟩ := oI_e hf
    subst hz1
    have hf := hw1
    cases hf
    refine g_eqQ hK ?_
    exact g_iret X hr dJ6_stringSize_0f7a4_46
  · have hf := ife_f hc hf
    refine g_iload_n X dJ6_stringSize_0f7a4_22 rfl rfl ?_
    refine g_iload_n X dJ6_stringSize_0f7a4_23 rfl rfl ?_
    refine g_icmp_le (tgt := 31) X dJ6_stringSize_0f7a4_24 (by decide) (fun hc => ?_) (fun hc => ?_)
    · have hf := ife_t hc hf
      refine g_bipush (v := (10 : Int32)) X dJ6_stringSize_0f7a4_31 (by decide) ?_
      refine g_iload_n X dJ6_stringSize_0f7a4_33 rfl rfl ?_
      refine g_imul X dJ6_stringSize_0f7a4_34 ?_
      refine g_istore_n (lv' := [(2, vI ((10 : Int32) * x2)), (0, vI x0), (1, vI x1), (3, vI x3)]) X dJ6_stringSize_0f7a4_35 rfl (by decide) rfl ?_
      refine g_iinc (v := (1 : Int32)) (lv' := [(3, vI (x3 + (1 : Int32))), (2, vI ((10 : Int32) * x2)), (0, vI x0), (1, vI x1)]) X dJ6_stringSize_0f7a4_36 rfl (by decide) (by decide) rfl ?_
      refine g_goto (tgt := 16) X dJ6_stringSize_0f7a4_39 (by decide) ?_
      cases hf
      refine g_sub (lvsub_of _ _ [2, 3, 1, 0] rfl) ?_
      exact hK
    · have hf := ife_f hc hf
      refine g_iload_n X dJ6_stringSize_0f7a4_27 rfl rfl ?_
      refine g_iload_n X dJ6_stringSize_0f7a4_28 rfl rfl ?_
      refine g_iadd X dJ6_stringSize_0f7a4_29 ?_
      obtain ⟨w2, hw2, hz2⟩ := oI_e hf
      subst hz2
      have hf := hw2
      cases hf
      refine g_eqQ hK ?_
      exact g_iret X hr dJ6_stringSize_0f7a4_30
set_option maxHeartbeats 4000000 in
set_option maxRecDepth 100000 in
theorem tl_J6_stringSize_0f7a4_16 (X : gX p s m args meth c D cy B (gSt Z B H0) RJ6 cJ6_stringSize_0f7a4 wsJ6_stringSize_0f7a4 4) (hr : meth.sig.returnType = (some .int)) {Q : State → Prop} : ∀ (M : gMem) (x0 : Int32) (x1 : Int32) (x2 : Int32) (x3 : Int32) (z : Int32 × gMem), lp_J6_stringSize_0f7a4_16 M x0 x1 x2 x3 = some z → (fun (r : Int32 × gMem) => Q = gMQ below D cy B H0 args s 0 0 (some (vI r.1)) r.2) z → gGo p l e rJ6_stringSize_0f7a4 s m args below meth c D cy B H0 4 0 0 Q 16 [(0, vI x0), (1, vI x1), (2, vI x2), (3, vI x3)] [] M := by
  intro M x0 x1 x2 x3 z hf hK
  refine lp_ind (P := (fun (q : gMem × Int32 × Int32) (z : Int32 × gMem) => (fun (r : Int32 × gMem) => Q = gMQ below D cy B H0 args s 0 0 (some (vI r.1)) r.2) z → gGo p l e rJ6_stringSize_0f7a4 s m args below meth c D cy B H0 4 0 0 Q 16 [(0, vI x0), (1, vI x1), (2, vI q.2.1), (3, vI q.2.2)] [] q.1)) (fun q z hq => ?_) _ _ hf hK
  intro hK
  obtain ⟨w, hw, hm⟩ := hq
  refine tb_J6_stringSize_0f7a4_16 X hr _ _ _ _ _ w hw ?_
  cases w with
  | inl a => exact hm hK
  | inr b => cases hm; exact hK
set_option maxHeartbeats 4000000 in
set_option maxRecDepth 100000 in
theorem t_J6_stringSize_0f7a4_11 (X : gX p s m args meth c D cy B (gSt Z B H0) RJ6 cJ6_stringSize_0f7a4 wsJ6_stringSize_0f7a4 4) (hr : meth.sig.returnType = (some .int)) {Q : State → Prop} : ∀ (M : gMem) (x0 : Int32) (x1 : Int32) (z : Int32 × gMem), b_J6_stringSize_0f7a4_11 M x0 x1 = some z → (fun (r : Int32 × gMem) => Q = gMQ below D cy B H0 args s 0 0 (some (vI r.1)) r.2) z → gGo p l e rJ6_stringSize_0f7a4 s m args below meth c D cy B H0 4 0 0 Q 11 [(0, vI x0), (1, vI x1)] [] M := by
  intro M x0 x1 z hf hK
  unfold b_J6_stringSize_0f7a4_11 at hf
  refine g_bipush (v := (-10 : Int32)) X dJ6_stringSize_0f7a4_11 (by decide) ?_
  refine g_istore_n (lv' := [(2, vI (-10 : Int32)), (0, vI x0), (1, vI x1)]) X dJ6_stringSize_0f7a4_13 rfl (by decide) rfl ?_
  refine g_iconst (v := (1 : Int32)) X dJ6_stringSize_0f7a4_14 (by decide) ?_
  refine g_istore_n (lv' := [(3, vI (1 : Int32)), (2, vI (-10 : Int32)), (0, vI x0), (1, vI x1)]) X dJ6_stringSize_0f7a4_15 rfl (by decide) rfl ?_
  refine g_sub (lvsub_of _ _ [2, 3, 1, 0] rfl) ?_
  exact tl_J6_stringSize_0f7a4_16 X hr _ _ _ _ _ _ hf hK
set_option maxHeartbeats 4000000 in
set_option maxRecDepth 100000 in
theorem t_J6_stringSize_0f7a4_0 (X : gX p s m args meth c D cy B (gSt Z B H0) RJ6 cJ6_stringSize_0f7a4 wsJ6_stringSize_0f7a4 4) (hr : meth.sig.returnType = (some .int)) {Q : State → Prop} : ∀ (M : gMem) (x0 : Int32) (z : Int32 × gMem), b_J6_stringSize_0f7a4_0 M x0 = some z → (fun (r : Int32 × gMem) => Q = gMQ below D cy B H0 args s 0 0 (some (vI r.1)) r.2) z → gGo p l e rJ6_stringSize_0f7a4 s m args below meth c D cy B H0 4 0 0 Q 0 [(0, vI x0)] [] M := by
  intro M x0 z hf hK
  unfold b_J6_stringSize_0f7a4_0 at hf
  refine g_iconst (v := (1 : Int32)) X dJ6_stringSize_0f7a4_0 (by decide) ?_
  refine g_istore_n (lv' := [(1, vI (1 : Int32)), (0, vI x0)]) X dJ6_stringSize_0f7a4_1 rfl (by decide) rfl ?_
  refine g_iload_n X dJ6_stringSize_0f7a4_2 rfl rfl ?_
  refine g_if_lt (tgt := 11) X dJ6_stringSize_0f7a4_3 (by decide) (fun hc => ?_) (fun hc => ?_)
  · have hf := ife_t hc hf
    refine g_sub (lvsub_of _ _ [1, 0] rfl) ?_
    exact t_J6_stringSize_0f7a4_11 X hr _ _ _ _ hf hK
  · have hf := ife_f hc hf
    refine g_iconst (v := (0 : Int32)) X dJ6_stringSize_0f7a4_6 (by decide) ?_
    refine g_istore_n (lv' := [(1, vI (0 : Int32)), (0, vI x0)]) X dJ6_stringSize_0f7a4_7 rfl (by decide) rfl ?_
    refine g_iload_n X dJ6_stringSize_0f7a4_8 rfl rfl ?_
    refine g_ineg X dJ6_stringSize_0f7a4_9 ?_
    refine g_istore_n (lv' := [(0, vI (-x0)), (1, vI (0 : Int32))]) X dJ6_stringSize_0f7a4_10 rfl (by decide) rfl ?_
    refine g_sub (lvsub_of _ _ [0, 1] rfl) ?_
    exact t_J6_stringSize_0f7a4_11 X hr _ _ _ _ hf hK
set_option maxHeartbeats 4000000 in
set_option maxRecDepth 100000 in
theorem m_J6_stringSize_0f7a4 (l : Launch) {D : va_G} {cy : Nat → ClassId} {B : Nat} {H0 : Heap} {Z : Nat → Nat} {M M1 : gMem} {x0 : Int32} {r : Int32} (hf : f_J6_stringSize_0f7a4 M x0 = some (r, M1)) : Met l yJ6_stringSize_0f7a4 wsJ6_stringSize_0f7a4 rJ6_stringSize_0f7a4 (va_Pc (List.map gv [vI x0]) (gPre D cy B H0 (gSt Z B H0) M)) (gQ D cy B H0 (some (vI r)) M1) 0 0 (gA B) := by
  refine Met.ofW (cc := cJ6_stringSize_0f7a4) (maxL := 4) (ret := (some .int)) (by decide) rfl ?_
  intro p e s m args below meth c s₁ Bd hml hv
  obtain ⟨rfl, hW, hKK, hFs⟩ := hv
  have X : gX p s m _ meth c D cy B (gSt Z B H0) RJ6 cJ6_stringSize_0f7a4 wsJ6_stringSize_0f7a4 4 := ⟨Bd.exec, Bd.bytes, atoms_spec (ws := wsJ6_stringSize_0f7a4) Bd.pre, findClass_of_methodNamed Bd.named, hml, hKK, by rw [hW.1]; exact hW.2.1, Bd.notSynchronized, hFs⟩
  have hr := Bd.returns
  have hl := lv_entry ([.int x0]) (n := 4) (Nat.le_of_ble_eq_true rfl)
  show W p l e rJ6_stringSize_0f7a4 s m _ below meth c s.heap [] 0 0 _ (entryFrame m ([.int x0] : List Value).toArray 4)
  rw [lg_entry_eq]
  generalize (lg_sl ([.int x0]) ++ List.replicate (4 - (lg_sl ([.int x0])).length) Slot.unset).toArray = ls at hl ⊢
  have hl : lv_has ls 4 (List.map gq [(0, vI x0)]) := hl
  exact t_J6_stringSize_0f7a4_0 X hr _ _ _ hf rfl s.heap [] ls hW va_S.rf (lv_has_sub hl (lvsub_of _ _ [0] rfl))
/-! ## java/lang/Integer.getChars(II[B)I -/
theorem dJ6_getChars_ba4f3_0 : decode cJ6_getChars_ba4f3 0 = .ok (.iload_n 1, 1) := by decide +kernel
theorem dJ6_getChars_ba4f3_1 : decode cJ6_getChars_ba4f3 1 = .ok (.istore 5, 2) := by decide +kernel
theorem dJ6_getChars_ba4f3_3 : decode cJ6_getChars_ba4f3 3 = .ok (.iload_n 0, 1) := by decide +kernel
theorem dJ6_getChars_ba4f3_4 : decode cJ6_getChars_ba4f3 4 = .ok (.ifCond .ge 7, 3) := by decide +kernel
theorem dJ6_getChars_ba4f3_7 : decode cJ6_getChars_ba4f3 7 = .ok (.iconst 1, 1) := by decide +kernel
theorem dJ6_getChars_ba4f3_8 : decode cJ6_getChars_ba4f3 8 = .ok (.goto 4, 3) := by decide +kernel
theorem dJ6_getChars_ba4f3_11 : decode cJ6_getChars_ba4f3 11 = .ok (.iconst 0, 1) := by decide +kernel
theorem dJ6_getChars_ba4f3_12 : decode cJ6_getChars_ba4f3 12 = .ok (.istore 6, 2) := by decide +kernel
theorem dJ6_getChars_ba4f3_14 : decode cJ6_getChars_ba4f3 14 = .ok (.iload 6, 2) := by decide +kernel
theorem dJ6_getChars_ba4f3_16 : decode cJ6_getChars_ba4f3 16 = .ok (.ifCond .ne 6, 3) := by decide +kernel
theorem dJ6_getChars_ba4f3_19 : decode cJ6_getChars_ba4f3 19 = .ok (.iload_n 0, 1) := by decide +kernel
theorem dJ6_getChars_ba4f3_20 : decode cJ6_getChars_ba4f3 20 = .ok (.ineg, 1) := by decide +kernel
theorem dJ6_getChars_ba4f3_21 : decode cJ6_getChars_ba4f3 21 = .ok (.istore_n 0, 1) := by decide +kernel
theorem dJ6_getChars_ba4f3_22 : decode cJ6_getChars_ba4f3 22 = .ok (.iload_n 0, 1) := by decide +kernel
theorem dJ6_getChars_ba4f3_23 : decode cJ6_getChars_ba4f3 23 = .ok (.bipush (-100), 2) := by decide +kernel
theorem dJ6_getChars_ba4f3_25 : decode cJ6_getChars_ba4f3 25 = .ok (.if_icmp .gt 47, 3) := by decide +kernel
theorem dJ6_getChars_ba4f3_28 : decode cJ6_getChars_ba4f3 28 = .ok (.iload_n 0, 1) := by decide +kernel
theorem dJ6_getChars_ba4f3_29 : decode cJ6_getChars_ba4f3 29 = .ok (.bipush 100, 2) := by decide +kernel
theorem dJ6_getChars_ba4f3_31 : decode cJ6_getChars_ba4f3 31 = .ok (.idiv, 1) := by decide +kernel
theorem dJ6_getChars_ba4f3_32 : decode cJ6_getChars_ba4f3 32 = .ok (.istore_n 3, 1) := by decide +kernel
theorem dJ6_getChars_ba4f3_33 : decode cJ6_getChars_ba4f3 33 = .ok (.iload_n 3, 1) := by decide +kernel
theorem dJ6_getChars_ba4f3_34 : decode cJ6_getChars_ba4f3 34 = .ok (.bipush 100, 2) := by decide +kernel
theorem dJ6_getChars_ba4f3_36 : decode cJ6_getChars_ba4f3 36 = .ok (.imul, 1) := by decide +kernel
theorem dJ6_getChars_ba4f3_37 : decode cJ6_getChars_ba4f3 37 = .ok (.iload_n 0, 1) := by decide +kernel
theorem dJ6_getChars_ba4f3_38 : decode cJ6_getChars_ba4f3 38 = .ok (.isub, 1) := by decide +kernel
theorem dJ6_getChars_ba4f3_39 : decode cJ6_getChars_ba4f3 39 = .ok (.istore 4, 2) := by decide +kernel
theorem dJ6_getChars_ba4f3_41 : decode cJ6_getChars_ba4f3 41 = .ok (.iload_n 3, 1) := by decide +kernel
theorem dJ6_getChars_ba4f3_42 : decode cJ6_getChars_ba4f3 42 = .ok (.istore_n 0, 1) := by decide +kernel
theorem dJ6_getChars_ba4f3_43 : decode cJ6_getChars_ba4f3 43 = .ok (.aload_n 2, 1) := by decide +kernel
theorem dJ6_getChars_ba4f3_44 : decode cJ6_getChars_ba4f3 44 = .ok (.iinc 5 (-1), 3) := by decide +kernel
theorem dJ6_getChars_ba4f3_47 : decode cJ6_getChars_ba4f3 47 = .ok (.iload 5, 2) := by decide +kernel
theorem dJ6_getChars_ba4f3_49 : decode cJ6_getChars_ba4f3 49 = .ok (.getstatic 83, 3) := by decide +kernel
theorem dJ6_getChars_ba4f3_52 : decode cJ6_getChars_ba4f3 52 = .ok (.iload 4, 2) := by decide +kernel
theorem dJ6_getChars_ba4f3_54 : decode cJ6_getChars_ba4f3 54 = .ok (.baload, 1) := by decide +kernel
theorem dJ6_getChars_ba4f3_55 : decode cJ6_getChars_ba4f3 55 = .ok (.bastore, 1) := by decide +kernel
theorem dJ6_getChars_ba4f3_56 : decode cJ6_getChars_ba4f3 56 = .ok (.aload_n 2, 1) := by decide +kernel
theorem dJ6_getChars_ba4f3_57 : decode cJ6_getChars_ba4f3 57 = .ok (.iinc 5 (-1), 3) := by decide +kernel
theorem dJ6_getChars_ba4f3_60 : decode cJ6_getChars_ba4f3 60 = .ok (.iload 5, 2) := by decide +kernel
theorem dJ6_getChars_ba4f3_62 : decode cJ6_getChars_ba4f3 62 = .ok (.getstatic 87, 3) := by decide +kernel
theorem dJ6_getChars_ba4f3_65 : decode cJ6_getChars_ba4f3 65 = .ok (.iload 4, 2) := by decide +kernel
theorem dJ6_getChars_ba4f3_67 : decode cJ6_getChars_ba4f3 67 = .ok (.baload, 1) := by decide +kernel
theorem dJ6_getChars_ba4f3_68 : decode cJ6_getChars_ba4f3 68 = .ok (.bastore, 1) := by decide +kernel
theorem dJ6_getChars_ba4f3_69 : decode cJ6_getChars_ba4f3 69 = .ok (.goto (-47), 3) := by decide +kernel
theorem dJ6_getChars_ba4f3_72 : decode cJ6_getChars_ba4f3 72 = .ok (.aload_n 2, 1) := by decide +kernel
theorem dJ6_getChars_ba4f3_73 : decode cJ6_getChars_ba4f3 73 = .ok (.iinc 5 (-1), 3) := by decide +kernel
theorem dJ6_getChars_ba4f3_76 : decode cJ6_getChars_ba4f3 76 = .ok (.iload 5, 2) := by decide +kernel
theorem dJ6_getChars_ba4f3_78 : decode cJ6_getChars_ba4f3 78 = .ok (.getstatic 83, 3) := by decide +kernel
theorem dJ6_getChars_ba4f3_81 : decode cJ6_getChars_ba4f3 81 = .ok (.iload_n 0, 1) := by decide +kernel
theorem dJ6_getChars_ba4f3_82 : decode cJ6_getChars_ba4f3 82 = .ok (.ineg, 1) := by decide +kernel
theorem dJ6_getChars_ba4f3_83 : decode cJ6_getChars_ba4f3 83 = .ok (.baload, 1) := by decide +kernel
theorem dJ6_getChars_ba4f3_84 : decode cJ6_getChars_ba4f3 84 = .ok (.bastore, 1) := by decide +kernel
theorem dJ6_getChars_ba4f3_85 : decode cJ6_getChars_ba4f3 85 = .ok (.iload_n 0, 1) := by decide +kernel
theorem dJ6_getChars_ba4f3_86 : decode cJ6_getChars_ba4f3 86 = .ok (.bipush (-9), 2) := by decide +kernel
theorem dJ6_getChars_ba4f3_88 : decode cJ6_getChars_ba4f3 88 = .ok (.if_icmp .ge 16, 3) := by decide +kernel
theorem dJ6_getChars_ba4f3_91 : decode cJ6_getChars_ba4f3 91 = .ok (.aload_n 2, 1) := by decide +kernel
theorem dJ6_getChars_ba4f3_92 : decode cJ6_getChars_ba4f3 92 = .ok (.iinc 5 (-1), 3) := by decide +kernel
theorem dJ6_getChars_ba4f3_95 : decode cJ6_getChars_ba4f3 95 = .ok (.iload 5, 2) := by decide +kernel
theorem dJ6_getChars_ba4f3_97 : decode cJ6_getChars_ba4f3 97 = .ok (.getstatic 87, 3) := by decide +kernel
theorem dJ6_getChars_ba4f3_100 : decode cJ6_getChars_ba4f3 100 = .ok (.iload_n 0, 1) := by decide +kernel
theorem dJ6_getChars_ba4f3_101 : decode cJ6_getChars_ba4f3 101 = .ok (.ineg, 1) := by decide +kernel
theorem dJ6_getChars_ba4f3_102 : decode cJ6_getChars_ba4f3 102 = .ok (.baload, 1) := by decide +kernel
theorem dJ6_getChars_ba4f3_103 : decode cJ6_getChars_ba4f3 103 = .ok (.bastore, 1) := by decide +kernel
theorem dJ6_getChars_ba4f3_104 : decode cJ6_getChars_ba4f3 104 = .ok (.iload 6, 2) := by decide +kernel
theorem dJ6_getChars_ba4f3_106 : decode cJ6_getChars_ba4f3 106 = .ok (.ifCond .eq 12, 3) := by decide +kernel
theorem dJ6_getChars_ba4f3_109 : decode cJ6_getChars_ba4f3 109 = .ok (.aload_n 2, 1) := by decide +kernel
theorem dJ6_getChars_ba4f3_110 : decode cJ6_getChars_ba4f3 110 = .ok (.iinc 5 (-1), 3) := by decide +kernel
theorem dJ6_getChars_ba4f3_113 : decode cJ6_getChars_ba4f3 113 = .ok (.iload 5, 2) := by decide +kernel
theorem dJ6_getChars_ba4f3_115 : decode cJ6_getChars_ba4f3 115 = .ok (.bipush 45, 2) := by decide +kernel
theorem dJ6_getChars_ba4f3_117 : decode cJ6_getChars_ba4f3 117 = .ok (.bastore, 1) := by decide +kernel
theorem dJ6_getChars_ba4f3_118 : decode cJ6_getChars_ba4f3 118 = .ok (.iload 5, 2) := by decide +kernel
theorem dJ6_getChars_ba4f3_120 : decode cJ6_getChars_ba4f3 120 = .ok (.ireturn, 1) := by decide +kernel
theorem k_J6_getChars_ba4f3_f83 : Cond.fieldLink RJ6 83 "java/lang/Integer" "DigitOnes" "[B" ∈ wsJ6_getChars_ba4f3 := by decide +kernel
theorem k_J6_getChars_ba4f3_f87 : Cond.fieldLink RJ6 87 "java/lang/Integer" "DigitTens" "[B" ∈ wsJ6_getChars_ba4f3 := by decide +kernel
abbrev rJ6_getChars_ba4f3 : Room := { frames := 0, cells := 0, slots := 0, locals := 0 }
noncomputable def b_J6_getChars_ba4f3_118 (Z : Nat → Nat) (M : gMem) (x5 : Int32) : Option (Int32 × gMem) :=
  some (x5, M)
noncomputable def b_J6_getChars_ba4f3_104 (Z : Nat → Nat) (M : gMem) (x2 : Option Nat) (x5 : Int32) (x6 : Int32) : Option (Int32 × gMem) :=
  (if x6 = 0 then b_J6_getChars_ba4f3_118 Z M x5 else dr x2 fun a1 => ck (mT M a1 = 22) <| ck (inb (x5 + (-1 : Int32)) (mL M a1)) <| lw (wI M a1 ((x5 + (-1 : Int32))).toNatClampNeg (vp_nar .byte ((45 : Int32)))) fun M4 => b_J6_getChars_ba4f3_118 Z M4 ((x5 + (-1 : Int32))))
noncomputable def bb_J6_getChars_ba4f3_22 (Z : Nat → Nat) (M : gMem) (x0 : Int32) (x2 : Option Nat) (x5 : Int32) (x6 : Int32) : Option ((gMem × Int32 × Int32) ⊕ (Int32 × gMem)) :=
  (if (-100 : Int32) < x0 then ck (inb (-x0) 100) <| dr x2 fun a7 => ck (mT M a7 = 22) <| ck (inb (x5 + (-1 : Int32)) (mL M a7)) <| lw (wI M a7 ((x5 + (-1 : Int32))).toNatClampNeg (vp_nar .byte ((gDo ((-x0)).toNatClampNeg)))) fun M10 => (if (-9 : Int32) ≤ x0 then oI (b_J6_getChars_ba4f3_104 Z M10 x2 ((x5 + (-1 : Int32))) x6) else ck (inb (-x0) 100) <| ck (inb ((x5 + (-1 : Int32)) + (-1 : Int32)) (mL M10 a7)) <| lw (wI M10 a7 (((x5 + (-1 : Int32)) + (-1 : Int32))).toNatClampNeg (vp_nar .byte ((gDt ((-x0)).toNatClampNeg)))) fun M15 => oI (b_J6_getChars_ba4f3_104 Z M15 x2 (((x5 + (-1 : Int32)) + (-1 : Int32))) x6)) else ck (inb (((x0 / (100 : Int32)) * (100 : Int32)) - x0) 100) <| dr x2 fun a19 => ck (mT M a19 = 22) <| ck (inb (x5 + (-1 : Int32)) (mL M a19)) <| lw (wI M a19 ((x5 + (-1 : Int32))).toNatClampNeg (vp_nar .byte ((gDo ((((x0 / (100 : Int32)) * (100 : Int32)) - x0)).toNatClampNeg)))) fun M22 => ck (inb (((x0 / (100 : Int32)) * (100 : Int32)) - x0) 100) <| ck (inb ((x5 + (-1 : Int32)) + (-1 : Int32)) (mL M22 a19)) <| lw (wI M22 a19 (((x5 + (-1 : Int32)) + (-1 : Int32))).toNatClampNeg (vp_nar .byte ((gDt ((((x0 / (100 : Int32)) * (100 : Int32)) - x0)).toNatClampNeg)))) fun M26 => some (.inl (M26, (x0 / (100 : Int32)), ((x5 + (-1 : Int32)) + (-1 : Int32)))))
noncomputable def lp_J6_getChars_ba4f3_22 (Z : Nat → Nat) (M : gMem) (x0 : Int32) (x2 : Option Nat) (x5 : Int32) (x6 : Int32) : Option (Int32 × gMem) :=
  lp (fun (q : gMem × Int32 × Int32) => bb_J6_getChars_ba4f3_22 Z q.1 q.2.1 x2 q.2.2 x6) (M, x0, x5)
noncomputable def b_J6_getChars_ba4f3_12 (Z : Nat → Nat) (M : gMem) (x0 : Int32) (x2 : Option Nat) (x5 : Int32) (s0 : Int32) : Option (Int32 × gMem) :=
  (if s0 = 0 then lp_J6_getChars_ba4f3_22 Z M ((-x0)) x2 x5 s0 else lp_J6_getChars_ba4f3_22 Z M x0 x2 x5 s0)
noncomputable def b_J6_getChars_ba4f3_0 (Z : Nat → Nat) (M : gMem) (x0 : Int32) (x1 : Int32) (x2 : Option Nat) : Option (Int32 × gMem) :=
  (if 0 ≤ x0 then b_J6_getChars_ba4f3_12 Z M x0 x2 x1 ((0 : Int32)) else b_J6_getChars_ba4f3_12 Z M x0 x2 x1 ((1 : Int32)))
noncomputable def f_J6_getChars_ba4f3 (Z : Nat → Nat) (M : gMem) (x0 : Int32) (x1 : Int32) (x2 : Option Nat) : Option (Int32 × gMem) :=
  b_J6_getChars_ba4f3_0 Z M x0 x1 x2
set_option maxHeartbeats 4000000 in
set_option maxRecDepth 100000 in
theorem t_J6_getChars_ba4f3_118 (X : gX p s m args meth c D cy B (gSt Z B H0) RJ6 cJ6_getChars_ba4f3 wsJ6_getChars_ba4f3 7) (hr : meth.sig.returnType = (some .int)) {Q : State → Prop} : ∀ (M : gMem) (x5 : Int32) (z : Int32 × gMem), b_J6_getChars_ba4f3_118 Z M x5 = some z → (fun (r : Int32 × gMem) => Q = gMQ below D cy B H0 args s 0 0 (some (vI r.1)) r.2) z → gGo p l e rJ6_getChars_ba4f3 s m args below meth c D cy B H0 7 0 0 Q 118 [(5, vI x5)] [] M := by
  intro M x5 z hf hK
  unfold b_J6_getChars_ba4f3_118 at hf
  refine g_iload X dJ6_getChars_ba4f3_118 rfl ?_
  cases hf
  refine g_eqQ hK ?_
  exact g_iret X hr dJ6_getChars_ba4f3_120
set_option maxHeartbeats 4000000 in
set_option maxRecDepth 100000 in
theorem t_J6_getChars_ba4f3_104 (X : gX p s m args meth c D cy B (gSt Z B H0) RJ6 cJ6_getChars_ba4f3 wsJ6_getChars_ba4f3 7) (hr : meth.sig.returnType = (some .int)) {Q : State → Prop} : ∀ (M : gMem) (x2 : Option Nat) (x5 : Int32) (x6 : Int32) (z : Int32 × gMem), b_J6_getChars_ba4f3_104 Z M x2 x5 x6 = some z → (fun (r : Int32 × gMem) => Q = gMQ below D cy B H0 args s 0 0 (some (vI r.1)) r.2) z → gGo p l e rJ6_getChars_ba4f3 s m args below meth c D cy B H0 7 0 0 Q 104 [(2, vR x2), (5, vI x5), (6, vI x6)] [] M := by
  intro M x2 x5 x6 z hf hK
  unfold b_J6_getChars_ba4f3_104 at hf
  refine g_iload X dJ6_getChars_ba4f3_104 rfl ?_
  refine g_if_eq (tgt := 118) X dJ6_getChars_ba4f3_106 (by decide) (fun hc => ?_) (fun hc => ?_)
  · have hf := ife_t hc hf
    refine g_sub (lvsub_of _ _ [1] rfl) ?_
    exact t_J6_getChars_ba4f3_118 X hr _ _ _ hf hK
  · have hf := ife_f hc hf
    refine g_aload_n X dJ6_getChars_ba4f3_109 rfl rfl ?_
    refine g_iinc (v := (-1 : Int32)) (lv' := [(5, vI (x5 + (-1 : Int32))), (2, vR x2), (6, vI x6)]) X dJ6_getChars_ba4f3_110 rfl (by decide) (by decide) rfl ?_
    refine g_iload X dJ6_getChars_ba4f3_113 rfl ?_
    refine g_bipush (v := (45 : Int32)) X dJ6_getChars_ba4f3_115 (by decide) ?_
    obtain ⟨a1, ha1, hf⟩ := dr_e hf
    obtain ⟨hT2, hf⟩ := ck_e hf
    obtain ⟨hg3, hf⟩ := ck_e hf
    refine g_bast X dJ6_getChars_ba4f3_117 ha1 hT2 hg3 ?_
    obtain ⟨M4, hM4, hf⟩ := lw_e hf
    rw [← hM4]
    have hT5 : mT M4 a1 = 22 := by rw [hM4]; exact hT2
    refine g_sub (lvsub_of _ _ [0] rfl) ?_
    exact t_J6_getChars_ba4f3_118 X hr _ _ _ hf hK
set_option maxHeartbeats 4000000 in
set_option maxRecDepth 100000 in
theorem tb_J6_getChars_ba4f3_22 (X : gX p s m args meth c D cy B (gSt Z B H0) RJ6 cJ6_getChars_ba4f3 wsJ6_getChars_ba4f3 7) (hr : meth.sig.returnType = (some .int)) {Q : State → Prop} : ∀ (M : gMem) (x0 : Int32) (x2 : Option Nat) (x5 : Int32) (x6 : Int32) (z : (gMem × Int32 × Int32) ⊕ (Int32 × gMem)), bb_J6_getChars_ba4f3_22 Z M x0 x2 x5 x6 = some z → (Sum.elim (fun (q : gMem × Int32 × Int32) => gGo p l e rJ6_getChars_ba4f3 s m args below meth c D cy B H0 7 0 0 Q 22 [(0, vI q.2.1), (2, vR x2), (5, vI q.2.2), (6, vI x6)] [] q.1) (fun (r : Int32 × gMem) => Q = gMQ below D cy B H0 args s 0 0 (some (vI r.1)) r.2)) z → gGo p l e rJ6_getChars_ba4f3 s m args below meth c D cy B H0 7 0 0 Q 22 [(0, vI x0), (2, vR x2), (5, vI x5), (6, vI x6)] [] M := by
  intro M x0 x2 x5 x6 z hf hK
  unfold bb_J6_getChars_ba4f3_22 at hf
  refine g_iload_n X dJ6_getChars_ba4f3_22 rfl rfl ?_
  refine g_bipush (v := (-100 : Int32)) X dJ6_getChars_ba4f3_23 (by decide) ?_
  refine g_icmp_gt (tgt := 72) X dJ6_getChars_ba4f3_25 (by decide) (fun hc => ?_) (fun hc => ?_)
  · have hf := ife_t hc hf
    refine g_aload_n X dJ6_getChars_ba4f3_72 rfl rfl ?_
    refine g_iinc (v := (-1 : Int32)) (lv' := [(5, vI (x5 + (-1 : Int32))), (0, vI x0), (2, vR x2), (6, vI x6)]) X dJ6_getChars_ba4f3_73 rfl (by decide) (by decide) rfl ?_
    refine g_iload X dJ6_getChars_ba4f3_76 rfl ?_
    refine g_gets (w := vR (some (Z 49))) X (gSt_DO X) k_J6_getChars_ba4f3_f83 rfl dJ6_getChars_ba4f3_78 ?_
    refine g_iload_n X dJ6_getChars_ba4f3_81 rfl rfl ?_
    refine g_ineg X dJ6_getChars_ba4f3_82 ?_
    obtain ⟨hg6, hf⟩ := ck_e hf
    refine g_baldT (w := (gDo ((-x0)).toNatClampNeg)) X (gSt_T49 X) rfl (gin_nn hg6) (gin_lt hg6) rfl dJ6_getChars_ba4f3_83 ?_
    obtain ⟨a7, ha7, hf⟩ := dr_e hf
    obtain ⟨hT8, hf⟩ := ck_e hf
    obtain ⟨hg9, hf⟩ := ck_e hf
    refine g_bast X dJ6_getChars_ba4f3_84 ha7 hT8 hg9 ?_
    obtain ⟨M10, hM10, hf⟩ := lw_e hf
    rw [← hM10]
    have hT11 : mT M10 a7 = 22 := by rw [hM10]; exact hT8
    refine g_iload_n X dJ6_getChars_ba4f3_85 rfl rfl ?_
    refine g_bipush (v := (-9 : Int32)) X dJ6_getChars_ba4f3_86 (by decide) ?_
    refine g_icmp_ge (tgt := 104) X dJ6_getChars_ba4f3_88 (by decide) (fun hc => ?_) (fun hc => ?_)
    · have hf := ife_t hc hf
      obtain ⟨w12, hw12, hz12⟩ := oI_e hf
      subst hz12
      have hf := hw12
      refine g_sub (lvsub_of _ _ [2, 0, 3] rfl) ?_
      exact t_J6_getChars_ba4f3_104 X hr _ _ _ _ _ hf hK
    · have hf := ife_f hc hf
      refine g_aload_n X dJ6_getChars_ba4f3_91 rfl rfl ?_
      refine g_iinc (v := (-1 : Int32)) (lv' := [(5, vI ((x5 + (-1 : Int32)) + (-1 : Int32))), (0, vI x0), (2, vR x2), (6, vI x6)]) X dJ6_getChars_ba4f3_92 rfl (by decide) (by decide) rfl ?_
      refine g_iload X dJ6_getChars_ba4f3_95 rfl ?_
      refine g_gets (w := vR (some (Z 50))) X (gSt_DT X) k_J6_getChars_ba4f3_f87 rfl dJ6_getChars_ba4f3_97 ?_
      refine g_iload_n X dJ6_getChars_ba4f3_100 rfl rfl ?_
      refine g_ineg X dJ6_getChars_ba4f3_101 ?_
      obtain ⟨hg13, hf⟩ := ck_e hf
      refine g_baldT (w := (gDt ((-x0)).toNatClampNeg)) X (gSt_T50 X) rfl (gin_nn hg13) (gin_lt hg13) rfl dJ6_getChars_ba4f3_102 ?_
      obtain ⟨hg14, hf⟩ := ck_e hf
      refine g_bast X dJ6_getChars_ba4f3_103 ha7 hT11 hg14 ?_
      obtain ⟨M15, hM15, hf⟩ := lw_e hf
      rw [← hM15]
      have hT16 : mT M15 a7 = 22 := by rw [hM15]; exact hT11
      obtain ⟨w17, hw17, hz17⟩ := oI_e hf
      subst hz17
      have hf := hw17
      refine g_sub (lvsub_of _ _ [2, 0, 3] rfl) ?_
      exact t_J6_getChars_ba4f3_104 X hr _ _ _ _ _ hf hK
  · have hf := ife_f hc hf
    refine g_iload_n X dJ6_getChars_ba4f3_28 rfl rfl ?_
    refine g_bipush (v := (100 : Int32)) X dJ6_getChars_ba4f3_29 (by decide) ?_
    refine g_idiv X dJ6_getChars_ba4f3_31 (by decide) ?_
    refine g_istore_n (lv' := [(3, vI (x0 / (100 : Int32))), (0, vI x0), (2, vR x2), (5, vI x5), (6, vI x6)]) X dJ6_getChars_ba4f3_32 rfl (by decide) rfl ?_
    refine g_iload_n X dJ6_getChars_ba4f3_33 rfl rfl ?_
    refine g_bipush (v := (100 : Int32)) X dJ6_getChars_ba4f3_34 (by decide) ?_
    refine g_imul X dJ6_getChars_ba4f3_36 ?_
    refine g_iload_n X dJ6_getChars_ba4f3_37 rfl rfl ?_
    refine g_isub X dJ6_getChars_ba4f3_38 ?_
    refine g_istore (lv' := [(4, vI (((x0 / (100 : Int32)) * (100 : Int32)) - x0)), (3, vI (x0 / (100 : Int32))), (0, vI x0), (2, vR x2), (5, vI x5), (6, vI x6)]) X dJ6_getChars_ba4f3_39 (by decide) rfl ?_
    refine g_iload_n X dJ6_getChars_ba4f3_41 rfl rfl ?_
    refine g_istore_n (lv' := [(0, vI (x0 / (100 : Int32))), (4, vI (((x0 / (100 : Int32)) * (100 : Int32)) - x0)), (3, vI (x0 / (100 : Int32))), (2, vR x2), (5, vI x5), (6, vI x6)]) X dJ6_getChars_ba4f3_42 rfl (by decide) rfl ?_
    refine g_aload_n X dJ6_getChars_ba4f3_43 rfl rfl ?_
    refine g_iinc (v := (-1 : Int32)) (lv' := [(5, vI (x5 + (-1 : Int32))), (0, vI (x0 / (100 : Int32))), (4, vI (((x0 / (100 : Int32)) * (100 : Int32)) - x0)), (3, vI (x0 / (100 : Int32))), (2, vR x2), (6, vI x6)]) X dJ6_getChars_ba4f3_44 rfl (by decide) (by decide) rfl ?_
    refine g_iload X dJ6_getChars_ba4f3_47 rfl ?_
    refine g_gets (w := vR (some (Z 49))) X (gSt_DO X) k_J6_getChars_ba4f3_f83 rfl dJ6_getChars_ba4f3_49 ?_
    refine g_iload X dJ6_getChars_ba4f3_52 rfl ?_
    obtain ⟨hg18, hf⟩ := ck_e hf
    refine g_baldT (w := (gDo ((((x0 / (100 : Int32)) * (100 : Int32)) - x0)).toNatClampNeg)) X (gSt_T49 X) rfl (gin_nn hg18) (gin_lt hg18) rfl dJ6_getChars_ba4f3_54 ?_
    obtain ⟨a19, ha19, hf⟩ := dr_e hf
    obtain ⟨hT20, hf⟩ := ck_e hf
    obtain ⟨hg21, hf⟩ := ck_e hf
    refine g_bast X dJ6_getChars_ba4f3_55 ha19 hT20 hg21 ?_
    obtain ⟨M22, hM22, hf⟩ := lw_e hf
    rw [← hM22]
    have hT23 : mT M22 a19 = 22 := by rw [hM22]; exact hT20
    refine g_aload_n X dJ6_getChars_ba4f3_56 rfl rfl ?_
    refine g_iinc (v := (-1 : Int32)) (lv' := [(5, vI ((x5 + (-1 : Int32)) + (-1 : Int32))), (0, vI (x0 / (100 : Int32))), (4, vI (((x0 / (100 : Int32)) * (100 : Int32)) - x0)), (3, vI (x0 / (100 : Int32))), (2, vR x2), (6, vI x6)]) X dJ6_getChars_ba4f3_57 rfl (by decide) (by decide) rfl ?_
    refine g_iload X dJ6_getChars_ba4f3_60 rfl ?_
    refine g_gets (w := vR (some (Z 50))) X (gSt_DT X) k_J6_getChars_ba4f3_f87 rfl dJ6_getChars_ba4f3_62 ?_
    refine g_iload X dJ6_getChars_ba4f3_65 rfl ?_
    obtain ⟨hg24, hf⟩ := ck_e hf
    refine g_baldT (w := (gDt ((((x0 / (100 : Int32)) * (100 : Int32)) - x0)).toNatClampNeg)) X (gSt_T50 X) rfl (gin_nn hg24) (gin_lt hg24) rfl dJ6_getChars_ba4f3_67 ?_
    obtain ⟨hg25, hf⟩ := ck_e hf
    refine g_bast X dJ6_getChars_ba4f3_68 ha19 hT23 hg25 ?_
    obtain ⟨M26, hM26, hf⟩ := lw_e hf
    rw [← hM26]
    have hT27 : mT M26 a19 = 22 := by rw [hM26]; exact hT23
    refine g_goto (tgt := 22) X dJ6_getChars_ba4f3_69 (by decide) ?_
    cases hf
    refine g_sub (lvsub_of _ _ [1, 4, 0, 5] rfl) ?_
    exact hK
set_option maxHeartbeats 4000000 in
set_option maxRecDepth 100000 in
theorem tl_J6_getChars_ba4f3_22 (X : gX p s m args meth c D cy B (gSt Z B H0) RJ6 cJ6_getChars_ba4f3 wsJ6_getChars_ba4f3 7) (hr : meth.sig.returnType = (some .int)) {Q : State → Prop} : ∀ (M : gMem) (x0 : Int32) (x2 : Option Nat) (x5 : Int32) (x6 : Int32) (z : Int32 × gMem), lp_J6_getChars_ba4f3_22 Z M x0 x2 x5 x6 = some z → (fun (r : Int32 × gMem) => Q = gMQ below D cy B H0 args s 0 0 (some (vI r.1)) r.2) z → gGo p l e rJ6_getChars_ba4f3 s m args below meth c D cy B H0 7 0 0 Q 22 [(0, vI x0), (2, vR x2), (5, vI x5), (6, vI x6)] [] M := by
  intro M x0 x2 x5 x6 z hf hK
  refine lp_ind (P := (fun (q : gMem × Int32 × Int32) (z : Int32 × gMem) => (fun (r : Int32 × gMem) => Q = gMQ below D cy B H0 args s 0 0 (some (vI r.1)) r.2) z → gGo p l e rJ6_getChars_ba4f3 s m args below meth c D cy B H0 7 0 0 Q 22 [(0, vI q.2.1), (2, vR x2), (5, vI q.2.2), (6, vI x6)] [] q.1)) (fun q z hq => ?_) _ _ hf hK
  intro hK
  obtain ⟨w, hw, hm⟩ := hq
  refine tb_J6_getChars_ba4f3_22 X hr _ _ _ _ _ w hw ?_
  cases w with
  | inl a => exact hm hK
  | inr b => cases hm; exact hK
set_option maxHeartbeats 4000000 in
set_option maxRecDepth 100000 in
theorem t_J6_getChars_ba4f3_12 (X : gX p s m args meth c D cy B (gSt Z B H0) RJ6 cJ6_getChars_ba4f3 wsJ6_getChars_ba4f3 7) (hr : meth.sig.returnType = (some .int)) {Q : State → Prop} : ∀ (M : gMem) (x0 : Int32) (x2 : Option Nat) (x5 : Int32) (s0 : Int32) (z : Int32 × gMem), b_J6_getChars_ba4f3_12 Z M x0 x2 x5 s0 = some z → (fun (r : Int32 × gMem) => Q = gMQ below D cy B H0 args s 0 0 (some (vI r.1)) r.2) z → gGo p l e rJ6_getChars_ba4f3 s m args below meth c D cy B H0 7 0 0 Q 12 [(0, vI x0), (2, vR x2), (5, vI x5)] [vI s0] M := by
  intro M x0 x2 x5 s0 z hf hK
  unfold b_J6_getChars_ba4f3_12 at hf
  refine g_istore (lv' := [(6, vI s0), (0, vI x0), (2, vR x2), (5, vI x5)]) X dJ6_getChars_ba4f3_12 (by decide) rfl ?_
  refine g_iload X dJ6_getChars_ba4f3_14 rfl ?_
  refine g_if_ne (tgt := 22) X dJ6_getChars_ba4f3_16 (by decide) (fun hc => ?_) (fun hc => ?_)
  · have hf := ife_f hc hf
    refine g_sub (lvsub_of _ _ [1, 2, 3, 0] rfl) ?_
    exact tl_J6_getChars_ba4f3_22 X hr _ _ _ _ _ _ hf hK
  · have hf := ife_t hc hf
    refine g_iload_n X dJ6_getChars_ba4f3_19 rfl rfl ?_
    refine g_ineg X dJ6_getChars_ba4f3_20 ?_
    refine g_istore_n (lv' := [(0, vI (-x0)), (6, vI s0), (2, vR x2), (5, vI x5)]) X dJ6_getChars_ba4f3_21 rfl (by decide) rfl ?_
    refine g_sub (lvsub_of _ _ [0, 2, 3, 1] rfl) ?_
    exact tl_J6_getChars_ba4f3_22 X hr _ _ _ _ _ _ hf hK
set_option maxHeartbeats 4000000 in
set_option maxRecDepth 100000 in
theorem t_J6_getChars_ba4f3_0 (X : gX p s m args meth c D cy B (gSt Z B H0) RJ6 cJ6_getChars_ba4f3 wsJ6_getChars_ba4f3 7) (hr : meth.sig.returnType = (some .int)) {Q : State → Prop} : ∀ (M : gMem) (x0 : Int32) (x1 : Int32) (x2 : Option Nat) (z : Int32 × gMem), b_J6_getChars_ba4f3_0 Z M x0 x1 x2 = some z → (fun (r : Int32 × gMem) => Q = gMQ below D cy B H0 args s 0 0 (some (vI r.1)) r.2) z → gGo p l e rJ6_getChars_ba4f3 s m args below meth c D cy B H0 7 0 0 Q 0 [(0, vI x0), (1, vI x1), (2, vR x2)] [] M := by
  intro M x0 x1 x2 z hf hK
  unfold b_J6_getChars_ba4f3_0 at hf
  refine g_iload_n X dJ6_getChars_ba4f3_0 rfl rfl ?_
  refine g_istore (lv' := [(5, vI x1), (0, vI x0), (1, vI x1), (2, vR x2)]) X dJ6_getChars_ba4f3_1 (by decide) rfl ?_
  refine g_iload_n X dJ6_getChars_ba4f3_3 rfl rfl ?_
  refine g_if_ge (tgt := 11) X dJ6_getChars_ba4f3_4 (by decide) (fun hc => ?_) (fun hc => ?_)
  · have hf := ife_t hc hf
    refine g_iconst (v := (0 : Int32)) X dJ6_getChars_ba4f3_11 (by decide) ?_
    refine g_sub (lvsub_of _ _ [1, 3, 0] rfl) ?_
    exact t_J6_getChars_ba4f3_12 X hr _ _ _ _ _ _ hf hK
  · have hf := ife_f hc hf
    refine g_iconst (v := (1 : Int32)) X dJ6_getChars_ba4f3_7 (by decide) ?_
    refine g_goto (tgt := 12) X dJ6_getChars_ba4f3_8 (by decide) ?_
    refine g_sub (lvsub_of _ _ [1, 3, 0] rfl) ?_
    exact t_J6_getChars_ba4f3_12 X hr _ _ _ _ _ _ hf hK
set_option maxHeartbeats 4000000 in
set_option maxRecDepth 100000 in
theorem m_J6_getChars_ba4f3 (l : Launch) {D : va_G} {cy : Nat → ClassId} {B : Nat} {H0 : Heap} {Z : Nat → Nat} {M M1 : gMem} {x0 : Int32} {x1 : Int32} {x2 : Option Nat} {r : Int32} (hf : f_J6_getChars_ba4f3 Z M x0 x1 x2 = some (r, M1)) : Met l yJ6_getChars_ba4f3 wsJ6_getChars_ba4f3 rJ6_getChars_ba4f3 (va_Pc (List.map gv [vI x0, vI x1, vR x2]) (gPre D cy B H0 (gSt Z B H0) M)) (gQ D cy B H0 (some (vI r)) M1) 0 0 (gA B) := by
  refine Met.ofW (cc := cJ6_getChars_ba4f3) (maxL := 7) (ret := (some .int)) (by decide) rfl ?_
  intro p e s m args below meth c s₁ Bd hml hv
  obtain ⟨rfl, hW, hKK, hFs⟩ := hv
  have X : gX p s m _ meth c D cy B (gSt Z B H0) RJ6 cJ6_getChars_ba4f3 wsJ6_getChars_ba4f3 7 := ⟨Bd.exec, Bd.bytes, atoms_spec (ws := wsJ6_getChars_ba4f3) Bd.pre, findClass_of_methodNamed Bd.named, hml, hKK, by rw [hW.1]; exact hW.2.1, Bd.notSynchronized, hFs⟩
  have hr := Bd.returns
  rcases x2 with _ | x2
  · have hl := lv_entry ([.int x0, .int x1, .null]) (n := 7) (Nat.le_of_ble_eq_true rfl)
    show W p l e rJ6_getChars_ba4f3 s m _ below meth c s.heap [] 0 0 _ (entryFrame m ([.int x0, .int x1, .null] : List Value).toArray 7)
    rw [lg_entry_eq]
    generalize (lg_sl ([.int x0, .int x1, .null]) ++ List.replicate (7 - (lg_sl ([.int x0, .int x1, .null])).length) Slot.unset).toArray = ls at hl ⊢
    have hl : lv_has ls 7 (List.map gq [(0, vI x0), (1, vI x1), (2, vR none)]) := hl
    exact t_J6_getChars_ba4f3_0 X hr _ _ _ _ _ hf rfl s.heap [] ls hW va_S.rf (lv_has_sub hl (lvsub_of _ _ [0, 1, 2] rfl))
  · have hl := lv_entry ([.int x0, .int x1, .ref x2]) (n := 7) (Nat.le_of_ble_eq_true rfl)
    show W p l e rJ6_getChars_ba4f3 s m _ below meth c s.heap [] 0 0 _ (entryFrame m ([.int x0, .int x1, .ref x2] : List Value).toArray 7)
    rw [lg_entry_eq]
    generalize (lg_sl ([.int x0, .int x1, .ref x2]) ++ List.replicate (7 - (lg_sl ([.int x0, .int x1, .ref x2])).length) Slot.unset).toArray = ls at hl ⊢
    have hl : lv_has ls 7 (List.map gq [(0, vI x0), (1, vI x1), (2, vR (some x2))]) := hl
    exact t_J6_getChars_ba4f3_0 X hr _ _ _ _ _ hf rfl s.heap [] ls hW va_S.rf (lv_has_sub hl (lvsub_of _ _ [0, 1, 2] rfl))
/-! ## java/lang/AbstractStringBuilder.append(I)Ljava/lang/AbstractStringBuilder; -/
theorem dJ5_append_c97b9_0 : decode cJ5_append_c97b9 0 = .ok (.aload_n 0, 1) := by decide +kernel
theorem dJ5_append_c97b9_1 : decode cJ5_append_c97b9 1 = .ok (.getfield 79, 3) := by decide +kernel
theorem dJ5_append_c97b9_4 : decode cJ5_append_c97b9 4 = .ok (.istore_n 2, 1) := by decide +kernel
theorem dJ5_append_c97b9_5 : decode cJ5_append_c97b9 5 = .ok (.iload_n 2, 1) := by decide +kernel
theorem dJ5_append_c97b9_6 : decode cJ5_append_c97b9 6 = .ok (.iload_n 1, 1) := by decide +kernel
theorem dJ5_append_c97b9_7 : decode cJ5_append_c97b9 7 = .ok (.invokestatic 245, 3) := by decide +kernel
theorem dJ5_append_c97b9_10 : decode cJ5_append_c97b9 10 = .ok (.iadd, 1) := by decide +kernel
theorem dJ5_append_c97b9_11 : decode cJ5_append_c97b9 11 = .ok (.istore_n 3, 1) := by decide +kernel
theorem dJ5_append_c97b9_12 : decode cJ5_append_c97b9 12 = .ok (.aload_n 0, 1) := by decide +kernel
theorem dJ5_append_c97b9_13 : decode cJ5_append_c97b9 13 = .ok (.iload_n 3, 1) := by decide +kernel
theorem dJ5_append_c97b9_14 : decode cJ5_append_c97b9 14 = .ok (.invokevirtual 100, 3) := by decide +kernel
theorem dJ5_append_c97b9_17 : decode cJ5_append_c97b9 17 = .ok (.aload_n 0, 1) := by decide +kernel
theorem dJ5_append_c97b9_18 : decode cJ5_append_c97b9 18 = .ok (.invokevirtual 83, 3) := by decide +kernel
theorem dJ5_append_c97b9_21 : decode cJ5_append_c97b9 21 = .ok (.ifCond .eq 16, 3) := by decide +kernel
theorem dJ5_append_c97b9_24 : decode cJ5_append_c97b9 24 = .ok (.iload_n 1, 1) := by decide +kernel
theorem dJ5_append_c97b9_25 : decode cJ5_append_c97b9 25 = .ok (.iload_n 3, 1) := by decide +kernel
theorem dJ5_append_c97b9_26 : decode cJ5_append_c97b9 26 = .ok (.aload_n 0, 1) := by decide +kernel
theorem dJ5_append_c97b9_27 : decode cJ5_append_c97b9 27 = .ok (.getfield 15, 3) := by decide +kernel
theorem dJ5_append_c97b9_30 : decode cJ5_append_c97b9 30 = .ok (.invokestatic 248, 3) := by decide +kernel
theorem dJ5_append_c97b9_33 : decode cJ5_append_c97b9 33 = .ok (.pop, 1) := by decide +kernel
theorem dJ5_append_c97b9_34 : decode cJ5_append_c97b9 34 = .ok (.goto 14, 3) := by decide +kernel
theorem dJ5_append_c97b9_37 : decode cJ5_append_c97b9 37 = .ok (.iload_n 1, 1) := by decide +kernel
theorem dJ5_append_c97b9_48 : decode cJ5_append_c97b9 48 = .ok (.aload_n 0, 1) := by decide +kernel
theorem dJ5_append_c97b9_49 : decode cJ5_append_c97b9 49 = .ok (.iload_n 3, 1) := by decide +kernel
theorem dJ5_append_c97b9_50 : decode cJ5_append_c97b9 50 = .ok (.putfield 79, 3) := by decide +kernel
theorem dJ5_append_c97b9_53 : decode cJ5_append_c97b9 53 = .ok (.aload_n 0, 1) := by decide +kernel
theorem dJ5_append_c97b9_54 : decode cJ5_append_c97b9 54 = .ok (.areturn, 1) := by decide +kernel
set_option maxRecDepth 20000 in
theorem ggJ5_append_c97b9_J6_stringSize_0f7a4 : GoodIn wsJ5_append_c97b9 wsJ6_stringSize_0f7a4 := goodIn_r _ [6] (by decide +kernel) (by decide +kernel)
set_option maxRecDepth 20000 in
theorem gJ5_append_c97b9_J6_stringSize_0f7a4 : GoodIn wsJ5_append_c97b9 (va_wsS RJ5 245 yJ6_stringSize_0f7a4 wsJ6_stringSize_0f7a4) := goodIn_app (goodIn_of _ (by decide +kernel)) ggJ5_append_c97b9_J6_stringSize_0f7a4
set_option maxRecDepth 20000 in
theorem ggJ5_append_c97b9_J5_ensureCapacityInternal_d00df : GoodIn wsJ5_append_c97b9 wsJ5_ensureCapacityInternal_d00df := goodIn_2 24 (goodIn_r _ [12, 2, 13, 14, 15, 16, 17, 11, 18, 19, 20, 21, 22, 23, 24, 25, 26, 27, 28, 29, 30, 31, 32, 33] (by decide +kernel) (by decide +kernel)) (goodIn_r _ [34, 35, 36, 37, 38, 39, 40, 41, 42, 43, 44, 45, 46, 47, 48, 49, 91, 92, 93, 94] (by decide +kernel) (by decide +kernel))
set_option maxRecDepth 20000 in
theorem gJ5_append_c97b9_J5_ensureCapacityInternal_d00df_u100J4 : GoodIn wsJ5_append_c97b9 (va_wsU RJ5 100 RJ4 "java/lang/AbstractStringBuilder" ⟨"java/lang/AbstractStringBuilder", "ensureCapacityInternal", "(I)V"⟩ yJ5_ensureCapacityInternal_d00df wsJ5_ensureCapacityInternal_d00df) := goodIn_app (goodIn_of _ (by decide +kernel)) ggJ5_append_c97b9_J5_ensureCapacityInternal_d00df
set_option maxRecDepth 20000 in
theorem ggJ5_append_c97b9_J5_isLatin1_aae02 : GoodIn wsJ5_append_c97b9 wsJ5_isLatin1_aae02 := goodIn_r _ [54, 55, 13, 91, 92, 93, 94] (by decide +kernel) (by decide +kernel)
set_option maxRecDepth 20000 in
theorem gJ5_append_c97b9_J5_isLatin1_aae02_u83J4 : GoodIn wsJ5_append_c97b9 (va_wsU RJ5 83 RJ4 "java/lang/AbstractStringBuilder" ⟨"java/lang/AbstractStringBuilder", "isLatin1", "()Z"⟩ yJ5_isLatin1_aae02 wsJ5_isLatin1_aae02) := goodIn_app (goodIn_of _ (by decide +kernel)) ggJ5_append_c97b9_J5_isLatin1_aae02
set_option maxRecDepth 20000 in
theorem ggJ5_append_c97b9_J6_getChars_ba4f3 : GoodIn wsJ5_append_c97b9 wsJ6_getChars_ba4f3 := goodIn_r _ [58, 59, 60] (by decide +kernel) (by decide +kernel)
set_option maxRecDepth 20000 in
theorem gJ5_append_c97b9_J6_getChars_ba4f3 : GoodIn wsJ5_append_c97b9 (va_wsS RJ5 248 yJ6_getChars_ba4f3 wsJ6_getChars_ba4f3) := goodIn_app (goodIn_of _ (by decide +kernel)) ggJ5_append_c97b9_J6_getChars_ba4f3
theorem k_J5_append_c97b9_f79 : Cond.fieldLink RJ5 79 "java/lang/AbstractStringBuilder" "count" "I" ∈ wsJ5_append_c97b9 := by decide +kernel
theorem i_J5_append_c97b9_J4 : ∀ w ∈ u_ws RJ4 TJ4 4, w ∈ wsJ5_append_c97b9 := by decide +kernel
theorem k_J5_append_c97b9_f15 : Cond.fieldLink RJ5 15 "java/lang/AbstractStringBuilder" "value" "[B" ∈ wsJ5_append_c97b9 := by decide +kernel
abbrev rJ5_append_c97b9 : Room := { frames := 4, cells := 1, slots := 2400, locals := 104 }
noncomputable def b_J5_append_c97b9_0 (Z : Nat → Nat) (M : gMem) (x0 : Nat) (x1 : Int32) : Option (Option Nat × gMem) :=
  ck (mT M x0 = 13) <| bd (f_J6_stringSize_0f7a4 M x1) fun r2 M2 => ck (mT M2 x0 = 13) <| bd (f_J5_ensureCapacityInternal_d00df Z M2 x0 (((mI M x0 3) + r2))) fun _ M3 => ck (mT M3 x0 = 13) <| bd (f_J5_isLatin1_aae02 Z M3 x0) fun r5 M5 => (if r5 = 0 then none else ck (mT M5 x0 = 13) <| bd (f_J6_getChars_ba4f3 Z M5 x1 (((mI M x0 3) + r2)) ((mR M5 x0 0))) fun r8 M8 => ck (mT M8 x0 = 13) <| lw (wI M8 x0 3 (((mI M x0 3) + r2))) fun M10 => some ((some x0), M10))
noncomputable def f_J5_append_c97b9 (Z : Nat → Nat) (M : gMem) (x0 : Nat) (x1 : Int32) : Option (Option Nat × gMem) :=
  b_J5_append_c97b9_0 Z M x0 x1
set_option maxHeartbeats 4000000 in
set_option maxRecDepth 100000 in
theorem t_J5_append_c97b9_0 (X2 : gX p s m args meth c D cy B (gSt2 Z B H0) RJ5 cJ5_append_c97b9 wsJ5_append_c97b9 4) (hr : meth.sig.returnType = (some (.object "java/lang/AbstractStringBuilder"))) {Q : State → Prop} : ∀ (M : gMem) (x0 : Nat) (x1 : Int32) (z : Option Nat × gMem), b_J5_append_c97b9_0 Z M x0 x1 = some z → (fun (r : Option Nat × gMem) => Q = gMQ below D cy B H0 args s 1 2400 (some (vR r.1)) r.2) z → gGo p l e rJ5_append_c97b9 s m args below meth c D cy B H0 4 0 0 Q 0 [(0, vR (some x0)), (1, vI x1)] [] M := by
  intro M x0 x1 z hf hK
  unfold b_J5_append_c97b9_0 at hf
  have X := gX_w X2
  refine g_aload_n X dJ5_append_c97b9_0 rfl rfl ?_
  obtain ⟨hT1, hf⟩ := ck_e hf
  refine g_get (ci := 12) (v := vI (mI M x0 3)) 3 X cdJ4 i_J5_append_c97b9_J4 (by decide) k_J5_append_c97b9_f79 rfl dJ5_append_c97b9_1 rfl hT1 rfl ?_
  refine g_istore_n (lv' := [(2, vI (mI M x0 3)), (0, vR (some x0)), (1, vI x1)]) X dJ5_append_c97b9_4 rfl (by decide) rfl ?_
  refine g_iload_n X dJ5_append_c97b9_5 rfl rfl ?_
  refine g_iload_n X dJ5_append_c97b9_6 rfl rfl ?_
  obtain ⟨r2, M2, hq2, hf⟩ := bd_e hf
  refine g_callS (As := [vI x1]) (st := [vI (mI M x0 3)]) (v := some (vI r2)) (M1 := M2) X (m_J6_stringSize_0f7a4 l hq2) (va_cwS 1 X.2.2.1 gJ5_append_c97b9_J6_stringSize_0f7a4 rfl rfl rfl (by decide +kernel) ⟨Nat.le_of_ble_eq_true rfl, Nat.le_of_ble_eq_true rfl⟩) rfl rfl (Nat.le_of_ble_eq_true rfl) dJ5_append_c97b9_7 ⟨by decide, by decide⟩ ?_
  refine g_iadd X dJ5_append_c97b9_10 ?_
  refine g_istore_n (lv' := [(3, vI ((mI M x0 3) + r2)), (2, vI (mI M x0 3)), (0, vR (some x0)), (1, vI x1)]) X dJ5_append_c97b9_11 rfl (by decide) rfl ?_
  refine g_aload_n X dJ5_append_c97b9_12 rfl rfl ?_
  refine g_iload_n X dJ5_append_c97b9_13 rfl rfl ?_
  obtain ⟨hT4, hf⟩ := ck_e hf
  obtain ⟨r3, M3, hq3, hf⟩ := bd_e hf
  refine g_callU (C := RJ4) (owner := "java/lang/AbstractStringBuilder") (b := x0) (As := [vI ((mI M x0 3) + r2)]) (st := []) (v := none) (M1 := M3) X2 (m_J5_ensureCapacityInternal_d00df l hq3) (va_cwU 1 X.2.2.1 gJ5_append_c97b9_J5_ensureCapacityInternal_d00df_u100J4 rfl rfl rfl (by decide +kernel) (by decide +kernel) ⟨Nat.le_of_ble_eq_true rfl, Nat.le_of_ble_eq_true rfl⟩) rfl rfl rfl (fun H hW => gW_recv (ci := 12) X hW hT4 (by decide) rfl) (Nat.le_of_ble_eq_true rfl) dJ5_append_c97b9_14 ⟨by decide, by decide⟩ ?_
  refine g_aload_n X dJ5_append_c97b9_17 rfl rfl ?_
  obtain ⟨hT6, hf⟩ := ck_e hf
  obtain ⟨r5, M5, hq5, hf⟩ := bd_e hf
  refine g_callU (C := RJ4) (owner := "java/lang/AbstractStringBuilder") (b := x0) (As := []) (st := []) (v := some (vI r5)) (M1 := M5) X (m_J5_isLatin1_aae02 l hq5) (va_cwU 0 X.2.2.1 gJ5_append_c97b9_J5_isLatin1_aae02_u83J4 rfl rfl rfl (by decide +kernel) (by decide +kernel) ⟨Nat.le_of_ble_eq_true rfl, Nat.le_of_ble_eq_true rfl⟩) rfl rfl rfl (fun H hW => gW_recv (ci := 12) X hW hT6 (by decide) rfl) (Nat.le_of_ble_eq_true rfl) dJ5_append_c97b9_18 ⟨by decide, by decide⟩ ?_
  refine g_if_eq (tgt := 37) X dJ5_append_c97b9_21 (by decide) (fun hc => ?_) (fun hc => ?_)
  · have hf := ife_t hc hf
    cases hf
  · have hf := ife_f hc hf
    refine g_iload_n X dJ5_append_c97b9_24 rfl rfl ?_
    refine g_iload_n X dJ5_append_c97b9_25 rfl rfl ?_
    refine g_aload_n X dJ5_append_c97b9_26 rfl rfl ?_
    obtain ⟨hT7, hf⟩ := ck_e hf
    refine g_get (ci := 12) (v := vR (mR M5 x0 0)) 0 X cdJ4 i_J5_append_c97b9_J4 (by decide) k_J5_append_c97b9_f15 rfl dJ5_append_c97b9_27 rfl hT7 rfl ?_
    obtain ⟨r8, M8, hq8, hf⟩ := bd_e hf
    refine g_callS (As := [vI x1, vI ((mI M x0 3) + r2), vR (mR M5 x0 0)]) (st := []) (v := some (vI r8)) (M1 := M8) X (m_J6_getChars_ba4f3 l hq8) (va_cwS 3 X.2.2.1 gJ5_append_c97b9_J6_getChars_ba4f3 rfl rfl rfl (by decide +kernel) ⟨Nat.le_of_ble_eq_true rfl, Nat.le_of_ble_eq_true rfl⟩) rfl rfl (Nat.le_of_ble_eq_true rfl) dJ5_append_c97b9_30 ⟨by decide, by decide⟩ ?_
    refine g_pop X dJ5_append_c97b9_33 rfl ?_
    refine g_goto (tgt := 48) X dJ5_append_c97b9_34 (by decide) ?_
    refine g_aload_n X dJ5_append_c97b9_48 rfl rfl ?_
    refine g_iload_n X dJ5_append_c97b9_49 rfl rfl ?_
    obtain ⟨hT9, hf⟩ := ck_e hf
    refine g_putI (ci := 12) 3 X cdJ4 i_J5_append_c97b9_J4 (by decide) k_J5_append_c97b9_f79 rfl dJ5_append_c97b9_50 rfl hT9 (Or.inl rfl) rfl rfl rfl ?_
    obtain ⟨M10, hM10, hf⟩ := lw_e hf
    rw [← hM10]
    have hT11 : mT M10 x0 = 13 := by rw [hM10]; exact hT9
    refine g_aload_n X dJ5_append_c97b9_53 rfl rfl ?_
    cases hf
    refine g_eqQ hK ?_
    exact g_aret X hr (Or.inl ⟨_, rfl⟩) dJ5_append_c97b9_54
set_option maxHeartbeats 4000000 in
set_option maxRecDepth 100000 in
theorem m_J5_append_c97b9 (l : Launch) {D : va_G} {cy : Nat → ClassId} {B : Nat} {H0 : Heap} {Z : Nat → Nat} {M M1 : gMem} {x0 : Nat} {x1 : Int32} {r : Option Nat} (hf : f_J5_append_c97b9 Z M x0 x1 = some (r, M1)) : Met l yJ5_append_c97b9 wsJ5_append_c97b9 rJ5_append_c97b9 (va_Pc (Value.ref x0 :: List.map gv [vI x1]) (gPre D cy B H0 (gSt2 Z B H0) M)) (gQ D cy B H0 (some (vR r)) M1) 1 2400 (gA B) := by
  refine Met.ofW (cc := cJ5_append_c97b9) (maxL := 4) (ret := (some (.object "java/lang/AbstractStringBuilder"))) (by decide) rfl ?_
  intro p e s m args below meth c s₁ Bd hml hv
  obtain ⟨rfl, hW, hKK, hFs⟩ := hv
  have X2 : gX p s m _ meth c D cy B (gSt2 Z B H0) RJ5 cJ5_append_c97b9 wsJ5_append_c97b9 4 := ⟨Bd.exec, Bd.bytes, atoms_spec (ws := wsJ5_append_c97b9) Bd.pre, findClass_of_methodNamed Bd.named, hml, hKK, by rw [hW.1]; exact hW.2.1, Bd.notSynchronized, hFs⟩
  have hr := Bd.returns
  have hl := lv_entry ([.ref x0, .int x1]) (n := 4) (Nat.le_of_ble_eq_true rfl)
  show W p l e rJ5_append_c97b9 s m _ below meth c s.heap [] 0 0 _ (entryFrame m ([.ref x0, .int x1] : List Value).toArray 4)
  rw [lg_entry_eq]
  generalize (lg_sl ([.ref x0, .int x1]) ++ List.replicate (4 - (lg_sl ([.ref x0, .int x1])).length) Slot.unset).toArray = ls at hl ⊢
  have hl : lv_has ls 4 (List.map gq [(0, vR (some x0)), (1, vI x1)]) := hl
  exact t_J5_append_c97b9_0 X2 hr _ _ _ _ hf rfl s.heap [] ls hW va_S.rf (lv_has_sub hl (lvsub_of _ _ [0, 1] rfl))
end
