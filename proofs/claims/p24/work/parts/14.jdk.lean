section
variable {p : Program} {l : Launch} {e : Env} {s : State} {m : MethodId} {args : Array Value} {below : List Frame} {meth : Method} {c : Code} {D : va_G} {cy : Nat → ClassId} {B : Nat} {H0 : Heap} {Z : Nat → Nat}
/-! ## java/lang/String.coder()B -/
theorem dJ0_coder_7d493_0 : decode cJ0_coder_7d493 0 = .ok (.getstatic 38, 3) := by decide +kernel
theorem dJ0_coder_7d493_3 : decode cJ0_coder_7d493 3 = .ok (.ifCond .eq 10, 3) := by decide +kernel
theorem dJ0_coder_7d493_6 : decode cJ0_coder_7d493 6 = .ok (.aload_n 0, 1) := by decide +kernel
theorem dJ0_coder_7d493_7 : decode cJ0_coder_7d493 7 = .ok (.getfield 15, 3) := by decide +kernel
theorem dJ0_coder_7d493_10 : decode cJ0_coder_7d493 10 = .ok (.goto 4, 3) := by decide +kernel
theorem dJ0_coder_7d493_13 : decode cJ0_coder_7d493 13 = .ok (.iconst 1, 1) := by decide +kernel
theorem dJ0_coder_7d493_14 : decode cJ0_coder_7d493 14 = .ok (.ireturn, 1) := by decide +kernel
theorem k_J0_coder_7d493_f38 : Cond.fieldLink RJ0 38 "java/lang/String" "COMPACT_STRINGS" "Z" ∈ wsJ0_coder_7d493 := by decide +kernel
theorem k_J0_coder_7d493_f15 : Cond.fieldLink RJ0 15 "java/lang/String" "coder" "B" ∈ wsJ0_coder_7d493 := by decide +kernel
abbrev rJ0_coder_7d493 : Room := { frames := 0, cells := 0, slots := 0, locals := 0 }
noncomputable def b_J0_coder_7d493_14 (Z : Nat → Nat) (M : gMem) (s0 : Int32) : Option (Int32 × gMem) :=
  ck (i2bV s0 = s0) <| some (s0, M)
noncomputable def b_J0_coder_7d493_0 (Z : Nat → Nat) (M : gMem) (x0 : Nat) : Option (Int32 × gMem) :=
  ck (x0 < 94) <| b_J0_coder_7d493_14 Z M ((0 : Int32))
noncomputable def f_J0_coder_7d493 (Z : Nat → Nat) (M : gMem) (x0 : Nat) : Option (Int32 × gMem) :=
  b_J0_coder_7d493_0 Z M x0
set_option maxHeartbeats 4000000 in
set_option maxRecDepth 100000 in
theorem t_J0_coder_7d493_14 (X : gX p s m args meth c D cy B (gSt Z B H0) RJ0 cJ0_coder_7d493 wsJ0_coder_7d493 1) (hr : meth.sig.returnType = (some .byte)) {Q : State → Prop} : ∀ (M : gMem) (s0 : Int32) (z : Int32 × gMem), b_J0_coder_7d493_14 Z M s0 = some z → (fun (r : Int32 × gMem) => Q = gMQ below D cy B H0 args s 0 0 (some (vI r.1)) r.2) z → gGo p l e rJ0_coder_7d493 s m args below meth c D cy B H0 1 0 0 Q 14 [] [vI s0] M := by
  intro M s0 z hf hK
  unfold b_J0_coder_7d493_14 at hf
  obtain ⟨hg1, hf⟩ := ck_e hf
  cases hf
  refine g_eqQ hK ?_
  exact g_zret X hr (gny hg1) dJ0_coder_7d493_14
set_option maxHeartbeats 4000000 in
set_option maxRecDepth 100000 in
theorem t_J0_coder_7d493_0 (X : gX p s m args meth c D cy B (gSt Z B H0) RJ0 cJ0_coder_7d493 wsJ0_coder_7d493 1) (hr : meth.sig.returnType = (some .byte)) {Q : State → Prop} : ∀ (M : gMem) (x0 : Nat) (z : Int32 × gMem), b_J0_coder_7d493_0 Z M x0 = some z → (fun (r : Int32 × gMem) => Q = gMQ below D cy B H0 args s 0 0 (some (vI r.1)) r.2) z → gGo p l e rJ0_coder_7d493 s m args below meth c D cy B H0 1 0 0 Q 0 [(0, vR (some (Z (100 + x0))))] [] M := by
  intro M x0 z hf hK
  unfold b_J0_coder_7d493_0 at hf
  refine g_gets (w := vI 1) X (gSt_CS X) k_J0_coder_7d493_f38 rfl dJ0_coder_7d493_0 ?_
  refine g_if_eq (tgt := 13) X dJ0_coder_7d493_3 (by decide) (fun hc => absurd hc (by decide)) (fun _ => ?_)
  refine g_aload_n X dJ0_coder_7d493_6 rfl rfl ?_
  obtain ⟨hg2, hf⟩ := ck_e hf
  refine g_getO (w := vI 0) X (gSt_sc X hg2) rfl k_J0_coder_7d493_f15 rfl dJ0_coder_7d493_7 ?_
  refine g_goto (tgt := 14) X dJ0_coder_7d493_10 (by decide) ?_
  refine g_sub (lvsub_of _ _ [] rfl) ?_
  exact t_J0_coder_7d493_14 X hr _ _ _ hf hK
set_option maxHeartbeats 4000000 in
set_option maxRecDepth 100000 in
theorem m_J0_coder_7d493 (l : Launch) {D : va_G} {cy : Nat → ClassId} {B : Nat} {H0 : Heap} {Z : Nat → Nat} {M M1 : gMem} {x0 : Nat} {r : Int32} (hf : f_J0_coder_7d493 Z M x0 = some (r, M1)) : Met l yJ0_coder_7d493 wsJ0_coder_7d493 rJ0_coder_7d493 (va_Pc (Value.ref (Z (100 + x0)) :: List.map gv []) (gPre D cy B H0 (gSt Z B H0) M)) (gQ D cy B H0 (some (vI r)) M1) 0 0 (gA B) := by
  refine Met.ofW (cc := cJ0_coder_7d493) (maxL := 1) (ret := (some .byte)) (by decide) rfl ?_
  intro p e s m args below meth c s₁ Bd hml hv
  obtain ⟨rfl, hW, hKK, hFs⟩ := hv
  have X : gX p s m _ meth c D cy B (gSt Z B H0) RJ0 cJ0_coder_7d493 wsJ0_coder_7d493 1 := ⟨Bd.exec, Bd.bytes, atoms_spec (ws := wsJ0_coder_7d493) Bd.pre, findClass_of_methodNamed Bd.named, hml, hKK, by rw [hW.1]; exact hW.2.1, Bd.notSynchronized, hFs⟩
  have hr := Bd.returns
  have hl := lv_entry ([.ref (Z (100 + x0))]) (n := 1) (Nat.le_of_ble_eq_true rfl)
  show W p l e rJ0_coder_7d493 s m _ below meth c s.heap [] 0 0 _ (entryFrame m ([.ref (Z (100 + x0))] : List Value).toArray 1)
  rw [lg_entry_eq]
  generalize (lg_sl ([.ref (Z (100 + x0))]) ++ List.replicate (1 - (lg_sl ([.ref (Z (100 + x0))])).length) Slot.unset).toArray = ls at hl ⊢
  have hl : lv_has ls 1 (List.map gq [(0, vR (some (Z (100 + x0))))]) := hl
  exact t_J0_coder_7d493_0 X hr _ _ _ hf rfl s.heap [] ls hW va_S.rf (lv_has_sub hl (lvsub_of _ _ [0] rfl))
/-! ## java/lang/String.length()I -/
theorem dJ0_length_8abf5_0 : decode cJ0_length_8abf5 0 = .ok (.aload_n 0, 1) := by decide +kernel
theorem dJ0_length_8abf5_1 : decode cJ0_length_8abf5 1 = .ok (.getfield 9, 3) := by decide +kernel
theorem dJ0_length_8abf5_4 : decode cJ0_length_8abf5 4 = .ok (.arraylength, 1) := by decide +kernel
theorem dJ0_length_8abf5_5 : decode cJ0_length_8abf5 5 = .ok (.aload_n 0, 1) := by decide +kernel
theorem dJ0_length_8abf5_6 : decode cJ0_length_8abf5 6 = .ok (.invokevirtual 335, 3) := by decide +kernel
theorem dJ0_length_8abf5_9 : decode cJ0_length_8abf5 9 = .ok (.ishr, 1) := by decide +kernel
theorem dJ0_length_8abf5_10 : decode cJ0_length_8abf5 10 = .ok (.ireturn, 1) := by decide +kernel
set_option maxRecDepth 20000 in
theorem ggJ0_length_8abf5_J0_coder_7d493 : GoodIn wsJ0_length_8abf5 wsJ0_coder_7d493 := goodIn_r _ [6, 7, 8, 9, 10, 11, 12] (by decide +kernel) (by decide +kernel)
set_option maxRecDepth 20000 in
theorem gJ0_length_8abf5_J0_coder_7d493 : GoodIn wsJ0_length_8abf5 (wsV RJ0 335 RJ0 yJ0_coder_7d493 wsJ0_coder_7d493) := goodIn_app (goodIn_of _ (by decide +kernel)) ggJ0_length_8abf5_J0_coder_7d493
theorem k_J0_length_8abf5_f9 : Cond.fieldLink RJ0 9 "java/lang/String" "value" "[B" ∈ wsJ0_length_8abf5 := by decide +kernel
abbrev rJ0_length_8abf5 : Room := { frames := 1, cells := 0, slots := 0, locals := 20 }
noncomputable def b_J0_length_8abf5_0 (Z : Nat → Nat) (M : gMem) (x0 : Nat) : Option (Int32 × gMem) :=
  ck (x0 < 94) <| bd (f_J0_coder_7d493 Z M x0) fun r2 M2 => some (((Int32.ofNat (sLn x0)) >>> (r2 &&& 31)), M2)
noncomputable def f_J0_length_8abf5 (Z : Nat → Nat) (M : gMem) (x0 : Nat) : Option (Int32 × gMem) :=
  b_J0_length_8abf5_0 Z M x0
set_option maxHeartbeats 4000000 in
set_option maxRecDepth 100000 in
theorem t_J0_length_8abf5_0 (X : gX p s m args meth c D cy B (gSt Z B H0) RJ0 cJ0_length_8abf5 wsJ0_length_8abf5 1) (hr : meth.sig.returnType = (some .int)) {Q : State → Prop} : ∀ (M : gMem) (x0 : Nat) (z : Int32 × gMem), b_J0_length_8abf5_0 Z M x0 = some z → (fun (r : Int32 × gMem) => Q = gMQ below D cy B H0 args s 0 0 (some (vI r.1)) r.2) z → gGo p l e rJ0_length_8abf5 s m args below meth c D cy B H0 1 0 0 Q 0 [(0, vR (some (Z (100 + x0))))] [] M := by
  intro M x0 z hf hK
  unfold b_J0_length_8abf5_0 at hf
  refine g_aload_n X dJ0_length_8abf5_0 rfl rfl ?_
  obtain ⟨hg1, hf⟩ := ck_e hf
  refine g_getO (w := vR (some (Z (300 + x0)))) X (gSt_sv X hg1) rfl k_J0_length_8abf5_f9 rfl dJ0_length_8abf5_1 ?_
  refine g_alenT X (gSt_sb X hg1) rfl dJ0_length_8abf5_4 ?_
  refine g_aload_n X dJ0_length_8abf5_5 rfl rfl ?_
  obtain ⟨r2, M2, hq2, hf⟩ := bd_e hf
  refine g_callV0 (C := RJ0) (b := (Z (100 + x0))) (As := []) (st := [vI (Int32.ofNat (sLn x0))]) (v := some (vI r2)) (M1 := M2) X (m_J0_coder_7d493 l hq2) (cwV 0 X.2.2.1 gJ0_length_8abf5_J0_coder_7d493 rfl rfl rfl (by decide +kernel) ⟨Nat.le_of_ble_eq_true rfl, Nat.le_of_ble_eq_true rfl⟩) rfl rfl rfl (fun H hW => gO_recv (gSt_sO X hg1) hW) (Nat.le_of_ble_eq_true rfl) dJ0_length_8abf5_6 ⟨by decide, by decide⟩ ?_
  refine g_ishr X dJ0_length_8abf5_9 ?_
  cases hf
  refine g_eqQ hK ?_
  exact g_iret X hr dJ0_length_8abf5_10
set_option maxHeartbeats 4000000 in
set_option maxRecDepth 100000 in
theorem m_J0_length_8abf5 (l : Launch) {D : va_G} {cy : Nat → ClassId} {B : Nat} {H0 : Heap} {Z : Nat → Nat} {M M1 : gMem} {x0 : Nat} {r : Int32} (hf : f_J0_length_8abf5 Z M x0 = some (r, M1)) : Met l yJ0_length_8abf5 wsJ0_length_8abf5 rJ0_length_8abf5 (va_Pc (Value.ref (Z (100 + x0)) :: List.map gv []) (gPre D cy B H0 (gSt Z B H0) M)) (gQ D cy B H0 (some (vI r)) M1) 0 0 (gA B) := by
  refine Met.ofW (cc := cJ0_length_8abf5) (maxL := 1) (ret := (some .int)) (by decide) rfl ?_
  intro p e s m args below meth c s₁ Bd hml hv
  obtain ⟨rfl, hW, hKK, hFs⟩ := hv
  have X : gX p s m _ meth c D cy B (gSt Z B H0) RJ0 cJ0_length_8abf5 wsJ0_length_8abf5 1 := ⟨Bd.exec, Bd.bytes, atoms_spec (ws := wsJ0_length_8abf5) Bd.pre, findClass_of_methodNamed Bd.named, hml, hKK, by rw [hW.1]; exact hW.2.1, Bd.notSynchronized, hFs⟩
  have hr := Bd.returns
  have hl := lv_entry ([.ref (Z (100 + x0))]) (n := 1) (Nat.le_of_ble_eq_true rfl)
  show W p l e rJ0_length_8abf5 s m _ below meth c s.heap [] 0 0 _ (entryFrame m ([.ref (Z (100 + x0))] : List Value).toArray 1)
  rw [lg_entry_eq]
  generalize (lg_sl ([.ref (Z (100 + x0))]) ++ List.replicate (1 - (lg_sl ([.ref (Z (100 + x0))])).length) Slot.unset).toArray = ls at hl ⊢
  have hl : lv_has ls 1 (List.map gq [(0, vR (some (Z (100 + x0))))]) := hl
  exact t_J0_length_8abf5_0 X hr _ _ _ hf rfl s.heap [] ls hW va_S.rf (lv_has_sub hl (lvsub_of _ _ [0] rfl))
/-! ## java/lang/String.isLatin1()Z -/
theorem dJ0_isLatin1_aae02_0 : decode cJ0_isLatin1_aae02 0 = .ok (.getstatic 38, 3) := by decide +kernel
theorem dJ0_isLatin1_aae02_3 : decode cJ0_isLatin1_aae02 3 = .ok (.ifCond .eq 14, 3) := by decide +kernel
theorem dJ0_isLatin1_aae02_6 : decode cJ0_isLatin1_aae02 6 = .ok (.aload_n 0, 1) := by decide +kernel
theorem dJ0_isLatin1_aae02_7 : decode cJ0_isLatin1_aae02 7 = .ok (.getfield 15, 3) := by decide +kernel
theorem dJ0_isLatin1_aae02_10 : decode cJ0_isLatin1_aae02 10 = .ok (.ifCond .ne 7, 3) := by decide +kernel
theorem dJ0_isLatin1_aae02_13 : decode cJ0_isLatin1_aae02 13 = .ok (.iconst 1, 1) := by decide +kernel
theorem dJ0_isLatin1_aae02_14 : decode cJ0_isLatin1_aae02 14 = .ok (.goto 4, 3) := by decide +kernel
theorem dJ0_isLatin1_aae02_17 : decode cJ0_isLatin1_aae02 17 = .ok (.iconst 0, 1) := by decide +kernel
theorem dJ0_isLatin1_aae02_18 : decode cJ0_isLatin1_aae02 18 = .ok (.ireturn, 1) := by decide +kernel
theorem k_J0_isLatin1_aae02_f38 : Cond.fieldLink RJ0 38 "java/lang/String" "COMPACT_STRINGS" "Z" ∈ wsJ0_isLatin1_aae02 := by decide +kernel
theorem k_J0_isLatin1_aae02_f15 : Cond.fieldLink RJ0 15 "java/lang/String" "coder" "B" ∈ wsJ0_isLatin1_aae02 := by decide +kernel
abbrev rJ0_isLatin1_aae02 : Room := { frames := 0, cells := 0, slots := 0, locals := 0 }
noncomputable def b_J0_isLatin1_aae02_18 (Z : Nat → Nat) (M : gMem) (s0 : Int32) : Option (Int32 × gMem) :=
  ck (s0 = 0 ∨ s0 = 1) <| some (s0, M)
noncomputable def b_J0_isLatin1_aae02_17 (Z : Nat → Nat) (M : gMem)  : Option (Int32 × gMem) :=
  b_J0_isLatin1_aae02_18 Z M ((0 : Int32))
noncomputable def b_J0_isLatin1_aae02_0 (Z : Nat → Nat) (M : gMem) (x0 : Nat) : Option (Int32 × gMem) :=
  ck (x0 < 94) <| b_J0_isLatin1_aae02_18 Z M ((1 : Int32))
noncomputable def f_J0_isLatin1_aae02 (Z : Nat → Nat) (M : gMem) (x0 : Nat) : Option (Int32 × gMem) :=
  b_J0_isLatin1_aae02_0 Z M x0
set_option maxHeartbeats 4000000 in
set_option maxRecDepth 100000 in
theorem t_J0_isLatin1_aae02_18 (X : gX p s m args meth c D cy B (gSt Z B H0) RJ0 cJ0_isLatin1_aae02 wsJ0_isLatin1_aae02 1) (hr : meth.sig.returnType = (some .boolean)) {Q : State → Prop} : ∀ (M : gMem) (s0 : Int32) (z : Int32 × gMem), b_J0_isLatin1_aae02_18 Z M s0 = some z → (fun (r : Int32 × gMem) => Q = gMQ below D cy B H0 args s 0 0 (some (vI r.1)) r.2) z → gGo p l e rJ0_isLatin1_aae02 s m args below meth c D cy B H0 1 0 0 Q 18 [] [vI s0] M := by
  intro M s0 z hf hK
  unfold b_J0_isLatin1_aae02_18 at hf
  obtain ⟨hg1, hf⟩ := ck_e hf
  cases hf
  refine g_eqQ hK ?_
  exact g_zret X hr (gnb hg1) dJ0_isLatin1_aae02_18
set_option maxHeartbeats 4000000 in
set_option maxRecDepth 100000 in
theorem t_J0_isLatin1_aae02_17 (X : gX p s m args meth c D cy B (gSt Z B H0) RJ0 cJ0_isLatin1_aae02 wsJ0_isLatin1_aae02 1) (hr : meth.sig.returnType = (some .boolean)) {Q : State → Prop} : ∀ (M : gMem)  (z : Int32 × gMem), b_J0_isLatin1_aae02_17 Z M  = some z → (fun (r : Int32 × gMem) => Q = gMQ below D cy B H0 args s 0 0 (some (vI r.1)) r.2) z → gGo p l e rJ0_isLatin1_aae02 s m args below meth c D cy B H0 1 0 0 Q 17 [] [] M := by
  intro M  z hf hK
  unfold b_J0_isLatin1_aae02_17 at hf
  refine g_iconst (v := (0 : Int32)) X dJ0_isLatin1_aae02_17 (by decide) ?_
  refine g_sub (lvsub_of _ _ [] rfl) ?_
  exact t_J0_isLatin1_aae02_18 X hr _ _ _ hf hK
set_option maxHeartbeats 4000000 in
set_option maxRecDepth 100000 in
theorem t_J0_isLatin1_aae02_0 (X : gX p s m args meth c D cy B (gSt Z B H0) RJ0 cJ0_isLatin1_aae02 wsJ0_isLatin1_aae02 1) (hr : meth.sig.returnType = (some .boolean)) {Q : State → Prop} : ∀ (M : gMem) (x0 : Nat) (z : Int32 × gMem), b_J0_isLatin1_aae02_0 Z M x0 = some z → (fun (r : Int32 × gMem) => Q = gMQ below D cy B H0 args s 0 0 (some (vI r.1)) r.2) z → gGo p l e rJ0_isLatin1_aae02 s m args below meth c D cy B H0 1 0 0 Q 0 [(0, vR (some (Z (100 + x0))))] [] M := by
  intro M x0 z hf hK
  unfold b_J0_isLatin1_aae02_0 at hf
  refine g_gets (w := vI 1) X (gSt_CS X) k_J0_isLatin1_aae02_f38 rfl dJ0_isLatin1_aae02_0 ?_
  refine g_if_eq (tgt := 17) X dJ0_isLatin1_aae02_3 (by decide) (fun hc => absurd hc (by decide)) (fun _ => ?_)
  refine g_aload_n X dJ0_isLatin1_aae02_6 rfl rfl ?_
  obtain ⟨hg2, hf⟩ := ck_e hf
  refine g_getO (w := vI 0) X (gSt_sc X hg2) rfl k_J0_isLatin1_aae02_f15 rfl dJ0_isLatin1_aae02_7 ?_
  refine g_if_ne (tgt := 17) X dJ0_isLatin1_aae02_10 (by decide) (fun hc => absurd hc (by decide)) (fun _ => ?_)
  refine g_iconst (v := (1 : Int32)) X dJ0_isLatin1_aae02_13 (by decide) ?_
  refine g_goto (tgt := 18) X dJ0_isLatin1_aae02_14 (by decide) ?_
  refine g_sub (lvsub_of _ _ [] rfl) ?_
  exact t_J0_isLatin1_aae02_18 X hr _ _ _ hf hK
set_option maxHeartbeats 4000000 in
set_option maxRecDepth 100000 in
theorem m_J0_isLatin1_aae02 (l : Launch) {D : va_G} {cy : Nat → ClassId} {B : Nat} {H0 : Heap} {Z : Nat → Nat} {M M1 : gMem} {x0 : Nat} {r : Int32} (hf : f_J0_isLatin1_aae02 Z M x0 = some (r, M1)) : Met l yJ0_isLatin1_aae02 wsJ0_isLatin1_aae02 rJ0_isLatin1_aae02 (va_Pc (Value.ref (Z (100 + x0)) :: List.map gv []) (gPre D cy B H0 (gSt Z B H0) M)) (gQ D cy B H0 (some (vI r)) M1) 0 0 (gA B) := by
  refine Met.ofW (cc := cJ0_isLatin1_aae02) (maxL := 1) (ret := (some .boolean)) (by decide) rfl ?_
  intro p e s m args below meth c s₁ Bd hml hv
  obtain ⟨rfl, hW, hKK, hFs⟩ := hv
  have X : gX p s m _ meth c D cy B (gSt Z B H0) RJ0 cJ0_isLatin1_aae02 wsJ0_isLatin1_aae02 1 := ⟨Bd.exec, Bd.bytes, atoms_spec (ws := wsJ0_isLatin1_aae02) Bd.pre, findClass_of_methodNamed Bd.named, hml, hKK, by rw [hW.1]; exact hW.2.1, Bd.notSynchronized, hFs⟩
  have hr := Bd.returns
  have hl := lv_entry ([.ref (Z (100 + x0))]) (n := 1) (Nat.le_of_ble_eq_true rfl)
  show W p l e rJ0_isLatin1_aae02 s m _ below meth c s.heap [] 0 0 _ (entryFrame m ([.ref (Z (100 + x0))] : List Value).toArray 1)
  rw [lg_entry_eq]
  generalize (lg_sl ([.ref (Z (100 + x0))]) ++ List.replicate (1 - (lg_sl ([.ref (Z (100 + x0))])).length) Slot.unset).toArray = ls at hl ⊢
  have hl : lv_has ls 1 (List.map gq [(0, vR (some (Z (100 + x0))))]) := hl
  exact t_J0_isLatin1_aae02_0 X hr _ _ _ hf rfl s.heap [] ls hW va_S.rf (lv_has_sub hl (lvsub_of _ _ [0] rfl))
/-! ## jdk/internal/util/Preconditions.checkIndex(IILjava/util/function/BiFunction;)I -/
theorem dJ3_checkIndex_8e157_0 : decode cJ3_checkIndex_8e157 0 = .ok (.iload_n 0, 1) := by decide +kernel
theorem dJ3_checkIndex_8e157_1 : decode cJ3_checkIndex_8e157 1 = .ok (.ifCond .lt 8, 3) := by decide +kernel
theorem dJ3_checkIndex_8e157_4 : decode cJ3_checkIndex_8e157 4 = .ok (.iload_n 0, 1) := by decide +kernel
theorem dJ3_checkIndex_8e157_5 : decode cJ3_checkIndex_8e157 5 = .ok (.iload_n 1, 1) := by decide +kernel
theorem dJ3_checkIndex_8e157_6 : decode cJ3_checkIndex_8e157 6 = .ok (.if_icmp .lt 10, 3) := by decide +kernel
theorem dJ3_checkIndex_8e157_9 : decode cJ3_checkIndex_8e157 9 = .ok (.aload_n 2, 1) := by decide +kernel
theorem dJ3_checkIndex_8e157_16 : decode cJ3_checkIndex_8e157 16 = .ok (.iload_n 0, 1) := by decide +kernel
theorem dJ3_checkIndex_8e157_17 : decode cJ3_checkIndex_8e157 17 = .ok (.ireturn, 1) := by decide +kernel
abbrev rJ3_checkIndex_8e157 : Room := { frames := 0, cells := 0, slots := 0, locals := 0 }
noncomputable def b_J3_checkIndex_8e157_9 (M : gMem) (x2 : Option Nat) : Option (Int32 × gMem) :=
  none
noncomputable def b_J3_checkIndex_8e157_0 (M : gMem) (x0 : Int32) (x1 : Int32) (x2 : Option Nat) : Option (Int32 × gMem) :=
  (if x0 < 0 then none else (if x0 < x1 then some (x0, M) else none))
noncomputable def f_J3_checkIndex_8e157 (M : gMem) (x0 : Int32) (x1 : Int32) (x2 : Option Nat) : Option (Int32 × gMem) :=
  b_J3_checkIndex_8e157_0 M x0 x1 x2
set_option maxHeartbeats 4000000 in
set_option maxRecDepth 100000 in
theorem t_J3_checkIndex_8e157_9 (X : gX p s m args meth c D cy B (gSt Z B H0) RJ3 cJ3_checkIndex_8e157 wsJ3_checkIndex_8e157 3) (hr : meth.sig.returnType = (some .int)) {Q : State → Prop} : ∀ (M : gMem) (x2 : Option Nat) (z : Int32 × gMem), b_J3_checkIndex_8e157_9 M x2 = some z → (fun (r : Int32 × gMem) => Q = gMQ below D cy B H0 args s 0 0 (some (vI r.1)) r.2) z → gGo p l e rJ3_checkIndex_8e157 s m args below meth c D cy B H0 3 0 0 Q 9 [(2, vR x2)] [] M := by
  intro M x2 z hf hK
  unfold b_J3_checkIndex_8e157_9 at hf
  cases hf
set_option maxHeartbeats 4000000 in
set_option maxRecDepth 100000 in
theorem t_J3_checkIndex_8e157_0 (X : gX p s m args meth c D cy B (gSt Z B H0) RJ3 cJ3_checkIndex_8e157 wsJ3_checkIndex_8e157 3) (hr : meth.sig.returnType = (some .int)) {Q : State → Prop} : ∀ (M : gMem) (x0 : Int32) (x1 : Int32) (x2 : Option Nat) (z : Int32 × gMem), b_J3_checkIndex_8e157_0 M x0 x1 x2 = some z → (fun (r : Int32 × gMem) => Q = gMQ below D cy B H0 args s 0 0 (some (vI r.1)) r.2) z → gGo p l e rJ3_checkIndex_8e157 s m args below meth c D cy B H0 3 0 0 Q 0 [(0, vI x0), (1, vI x1), (2, vR x2)] [] M := by
  intro M x0 x1 x2 z hf hK
  unfold b_J3_checkIndex_8e157_0 at hf
  refine g_iload_n X dJ3_checkIndex_8e157_0 rfl rfl ?_
  refine g_if_lt (tgt := 9) X dJ3_checkIndex_8e157_1 (by decide) (fun hc => ?_) (fun hc => ?_)
  · have hf := ife_t hc hf
    cases hf
  · have hf := ife_f hc hf
    refine g_iload_n X dJ3_checkIndex_8e157_4 rfl rfl ?_
    refine g_iload_n X dJ3_checkIndex_8e157_5 rfl rfl ?_
    refine g_icmp_lt (tgt := 16) X dJ3_checkIndex_8e157_6 (by decide) (fun hc => ?_) (fun hc => ?_)
    · have hf := ife_t hc hf
      refine g_iload_n X dJ3_checkIndex_8e157_16 rfl rfl ?_
      cases hf
      refine g_eqQ hK ?_
      exact g_iret X hr dJ3_checkIndex_8e157_17
    · have hf := ife_f hc hf
      cases hf
set_option maxHeartbeats 4000000 in
set_option maxRecDepth 100000 in
theorem m_J3_checkIndex_8e157 (l : Launch) {D : va_G} {cy : Nat → ClassId} {B : Nat} {H0 : Heap} {Z : Nat → Nat} {M M1 : gMem} {x0 : Int32} {x1 : Int32} {x2 : Option Nat} {r : Int32} (hf : f_J3_checkIndex_8e157 M x0 x1 x2 = some (r, M1)) : Met l yJ3_checkIndex_8e157 wsJ3_checkIndex_8e157 rJ3_checkIndex_8e157 (va_Pc (List.map gv [vI x0, vI x1, vR x2]) (gPre D cy B H0 (gSt Z B H0) M)) (gQ D cy B H0 (some (vI r)) M1) 0 0 (gA B) := by
  refine Met.ofW (cc := cJ3_checkIndex_8e157) (maxL := 3) (ret := (some .int)) (by decide) rfl ?_
  intro p e s m args below meth c s₁ Bd hml hv
  obtain ⟨rfl, hW, hKK, hFs⟩ := hv
  have X : gX p s m _ meth c D cy B (gSt Z B H0) RJ3 cJ3_checkIndex_8e157 wsJ3_checkIndex_8e157 3 := ⟨Bd.exec, Bd.bytes, atoms_spec (ws := wsJ3_checkIndex_8e157) Bd.pre, findClass_of_methodNamed Bd.named, hml, hKK, by rw [hW.1]; exact hW.2.1, Bd.notSynchronized, hFs⟩
  have hr := Bd.returns
  rcases x2 with _ | x2
  · have hl := lv_entry ([.int x0, .int x1, .null]) (n := 3) (Nat.le_of_ble_eq_true rfl)
    show W p l e rJ3_checkIndex_8e157 s m _ below meth c s.heap [] 0 0 _ (entryFrame m ([.int x0, .int x1, .null] : List Value).toArray 3)
    rw [lg_entry_eq]
    generalize (lg_sl ([.int x0, .int x1, .null]) ++ List.replicate (3 - (lg_sl ([.int x0, .int x1, .null])).length) Slot.unset).toArray = ls at hl ⊢
    have hl : lv_has ls 3 (List.map gq [(0, vI x0), (1, vI x1), (2, vR none)]) := hl
    exact t_J3_checkIndex_8e157_0 X hr _ _ _ _ _ hf rfl s.heap [] ls hW va_S.rf (lv_has_sub hl (lvsub_of _ _ [0, 1, 2] rfl))
  · have hl := lv_entry ([.int x0, .int x1, .ref x2]) (n := 3) (Nat.le_of_ble_eq_true rfl)
    show W p l e rJ3_checkIndex_8e157 s m _ below meth c s.heap [] 0 0 _ (entryFrame m ([.int x0, .int x1, .ref x2] : List Value).toArray 3)
    rw [lg_entry_eq]
    generalize (lg_sl ([.int x0, .int x1, .ref x2]) ++ List.replicate (3 - (lg_sl ([.int x0, .int x1, .ref x2])).length) Slot.unset).toArray = ls at hl ⊢
    have hl : lv_has ls 3 (List.map gq [(0, vI x0), (1, vI x1), (2, vR (some x2))]) := hl
    exact t_J3_checkIndex_8e157_0 X hr _ _ _ _ _ hf rfl s.heap [] ls hW va_S.rf (lv_has_sub hl (lvsub_of _ _ [0, 1, 2] rfl))
/-! ## java/lang/String.checkIndex(II)V -/
theorem dJ0_checkIndex_df160_0 : decode cJ0_checkIndex_df160 0 = .ok (.iload_n 0, 1) := by decide +kernel
theorem dJ0_checkIndex_df160_1 : decode cJ0_checkIndex_df160 1 = .ok (.iload_n 1, 1) := by decide +kernel
theorem dJ0_checkIndex_df160_2 : decode cJ0_checkIndex_df160 2 = .ok (.getstatic 1053, 3) := by decide +kernel
theorem dJ0_checkIndex_df160_5 : decode cJ0_checkIndex_df160 5 = .ok (.invokestatic 1059, 3) := by decide +kernel
theorem dJ0_checkIndex_df160_8 : decode cJ0_checkIndex_df160 8 = .ok (.pop, 1) := by decide +kernel
theorem dJ0_checkIndex_df160_9 : decode cJ0_checkIndex_df160 9 = .ok (.return_, 1) := by decide +kernel
set_option maxRecDepth 20000 in
theorem ggJ0_checkIndex_df160_J3_checkIndex_8e157 : GoodIn wsJ0_checkIndex_df160 wsJ3_checkIndex_8e157 := goodIn_r _ [5] (by decide +kernel) (by decide +kernel)
set_option maxRecDepth 20000 in
theorem gJ0_checkIndex_df160_J3_checkIndex_8e157 : GoodIn wsJ0_checkIndex_df160 (va_wsS RJ0 1059 yJ3_checkIndex_8e157 wsJ3_checkIndex_8e157) := goodIn_app (goodIn_of _ (by decide +kernel)) ggJ0_checkIndex_df160_J3_checkIndex_8e157
theorem k_J0_checkIndex_df160_f1053 : Cond.fieldLink RJ0 1053 "jdk/internal/util/Preconditions" "SIOOBE_FORMATTER" "Ljava/util/function/BiFunction;" ∈ wsJ0_checkIndex_df160 := by decide +kernel
abbrev rJ0_checkIndex_df160 : Room := { frames := 1, cells := 0, slots := 0, locals := 22 }
noncomputable def b_J0_checkIndex_df160_0 (Z : Nat → Nat) (M : gMem) (x0 : Int32) (x1 : Int32) : Option (Unit × gMem) :=
  bd (f_J3_checkIndex_8e157 M x0 x1 ((zopt (Z 48)))) fun r1 M1 => some ((), M1)
noncomputable def f_J0_checkIndex_df160 (Z : Nat → Nat) (M : gMem) (x0 : Int32) (x1 : Int32) : Option (Unit × gMem) :=
  b_J0_checkIndex_df160_0 Z M x0 x1
set_option maxHeartbeats 4000000 in
set_option maxRecDepth 100000 in
theorem t_J0_checkIndex_df160_0 (X : gX p s m args meth c D cy B (gSt Z B H0) RJ0 cJ0_checkIndex_df160 wsJ0_checkIndex_df160 2) (hr : meth.sig.returnType = none) {Q : State → Prop} : ∀ (M : gMem) (x0 : Int32) (x1 : Int32) (z : Unit × gMem), b_J0_checkIndex_df160_0 Z M x0 x1 = some z → (fun (r : Unit × gMem) => Q = gMQ below D cy B H0 args s 0 0 none r.2) z → gGo p l e rJ0_checkIndex_df160 s m args below meth c D cy B H0 2 0 0 Q 0 [(0, vI x0), (1, vI x1)] [] M := by
  intro M x0 x1 z hf hK
  unfold b_J0_checkIndex_df160_0 at hf
  refine g_iload_n X dJ0_checkIndex_df160_0 rfl rfl ?_
  refine g_iload_n X dJ0_checkIndex_df160_1 rfl rfl ?_
  refine g_gets (w := vR (zopt (Z 48))) X (gSt_SI X) k_J0_checkIndex_df160_f1053 rfl dJ0_checkIndex_df160_2 ?_
  obtain ⟨r1, M1, hq1, hf⟩ := bd_e hf
  refine g_callS (As := [vI x0, vI x1, vR (zopt (Z 48))]) (st := []) (v := some (vI r1)) (M1 := M1) X (m_J3_checkIndex_8e157 l hq1) (va_cwS 3 X.2.2.1 gJ0_checkIndex_df160_J3_checkIndex_8e157 rfl rfl rfl (by decide +kernel) ⟨Nat.le_of_ble_eq_true rfl, Nat.le_of_ble_eq_true rfl⟩) rfl rfl (Nat.le_of_ble_eq_true rfl) dJ0_checkIndex_df160_5 ⟨by decide, by decide⟩ ?_
  refine g_pop X dJ0_checkIndex_df160_8 rfl ?_
  cases hf
  refine g_eqQ hK ?_
  exact g_vret X hr dJ0_checkIndex_df160_9
set_option maxHeartbeats 4000000 in
set_option maxRecDepth 100000 in
theorem m_J0_checkIndex_df160 (l : Launch) {D : va_G} {cy : Nat → ClassId} {B : Nat} {H0 : Heap} {Z : Nat → Nat} {M M1 : gMem} {x0 : Int32} {x1 : Int32} {r : Unit} (hf : f_J0_checkIndex_df160 Z M x0 x1 = some (r, M1)) : Met l yJ0_checkIndex_df160 wsJ0_checkIndex_df160 rJ0_checkIndex_df160 (va_Pc (List.map gv [vI x0, vI x1]) (gPre D cy B H0 (gSt Z B H0) M)) (gQ D cy B H0 none M1) 0 0 (gA B) := by
  refine Met.ofW (cc := cJ0_checkIndex_df160) (maxL := 2) (ret := none) (by decide) rfl ?_
  intro p e s m args below meth c s₁ Bd hml hv
  obtain ⟨rfl, hW, hKK, hFs⟩ := hv
  have X : gX p s m _ meth c D cy B (gSt Z B H0) RJ0 cJ0_checkIndex_df160 wsJ0_checkIndex_df160 2 := ⟨Bd.exec, Bd.bytes, atoms_spec (ws := wsJ0_checkIndex_df160) Bd.pre, findClass_of_methodNamed Bd.named, hml, hKK, by rw [hW.1]; exact hW.2.1, Bd.notSynchronized, hFs⟩
  have hr := Bd.returns
  have hl := lv_entry ([.int x0, .int x1]) (n := 2) (Nat.le_of_ble_eq_true rfl)
  show W p l e rJ0_checkIndex_df160 s m _ below meth c s.heap [] 0 0 _ (entryFrame m ([.int x0, .int x1] : List Value).toArray 2)
  rw [lg_entry_eq]
  generalize (lg_sl ([.int x0, .int x1]) ++ List.replicate (2 - (lg_sl ([.int x0, .int x1])).length) Slot.unset).toArray = ls at hl ⊢
  have hl : lv_has ls 2 (List.map gq [(0, vI x0), (1, vI x1)]) := hl
  exact t_J0_checkIndex_df160_0 X hr _ _ _ _ hf rfl s.heap [] ls hW va_S.rf (lv_has_sub hl (lvsub_of _ _ [0, 1] rfl))
/-! ## java/lang/StringLatin1.charAt([BI)C -/
theorem dJ1_charAt_3b067_0 : decode cJ1_charAt_3b067 0 = .ok (.iload_n 1, 1) := by decide +kernel
theorem dJ1_charAt_3b067_1 : decode cJ1_charAt_3b067 1 = .ok (.aload_n 0, 1) := by decide +kernel
theorem dJ1_charAt_3b067_2 : decode cJ1_charAt_3b067 2 = .ok (.arraylength, 1) := by decide +kernel
theorem dJ1_charAt_3b067_3 : decode cJ1_charAt_3b067 3 = .ok (.invokestatic 9, 3) := by decide +kernel
theorem dJ1_charAt_3b067_6 : decode cJ1_charAt_3b067 6 = .ok (.aload_n 0, 1) := by decide +kernel
theorem dJ1_charAt_3b067_7 : decode cJ1_charAt_3b067 7 = .ok (.iload_n 1, 1) := by decide +kernel
theorem dJ1_charAt_3b067_8 : decode cJ1_charAt_3b067 8 = .ok (.baload, 1) := by decide +kernel
theorem dJ1_charAt_3b067_9 : decode cJ1_charAt_3b067 9 = .ok (.sipush 255, 3) := by decide +kernel
theorem dJ1_charAt_3b067_12 : decode cJ1_charAt_3b067 12 = .ok (.iand, 1) := by decide +kernel
theorem dJ1_charAt_3b067_13 : decode cJ1_charAt_3b067 13 = .ok (.i2c, 1) := by decide +kernel
theorem dJ1_charAt_3b067_14 : decode cJ1_charAt_3b067 14 = .ok (.ireturn, 1) := by decide +kernel
set_option maxRecDepth 20000 in
theorem ggJ1_charAt_3b067_J0_checkIndex_df160 : GoodIn wsJ1_charAt_3b067 wsJ0_checkIndex_df160 := goodIn_r _ [4, 5, 6, 7, 8, 9] (by decide +kernel) (by decide +kernel)
set_option maxRecDepth 20000 in
theorem gJ1_charAt_3b067_J0_checkIndex_df160 : GoodIn wsJ1_charAt_3b067 (va_wsS RJ1 9 yJ0_checkIndex_df160 wsJ0_checkIndex_df160) := goodIn_app (goodIn_of _ (by decide +kernel)) ggJ1_charAt_3b067_J0_checkIndex_df160
abbrev rJ1_charAt_3b067 : Room := { frames := 2, cells := 0, slots := 0, locals := 43 }
noncomputable def b_J1_charAt_3b067_0 (Z : Nat → Nat) (M : gMem) (x0 : Nat) (x1 : Int32) : Option (Int32 × gMem) :=
  ck (x0 < 94) <| bd (f_J0_checkIndex_df160 Z M x1 ((Int32.ofNat (sLn x0)))) fun _ M2 => ck (inb x1 (sLn x0)) <| ck (i2cV ((i2cV (((sBy x0 x1.toNatClampNeg) &&& (255 : Int32))))) = (i2cV (((sBy x0 x1.toNatClampNeg) &&& (255 : Int32))))) <| some ((i2cV (((sBy x0 x1.toNatClampNeg) &&& (255 : Int32)))), M2)
noncomputable def f_J1_charAt_3b067 (Z : Nat → Nat) (M : gMem) (x0 : Nat) (x1 : Int32) : Option (Int32 × gMem) :=
  b_J1_charAt_3b067_0 Z M x0 x1
set_option maxHeartbeats 4000000 in
set_option maxRecDepth 100000 in
theorem t_J1_charAt_3b067_0 (X : gX p s m args meth c D cy B (gSt Z B H0) RJ1 cJ1_charAt_3b067 wsJ1_charAt_3b067 2) (hr : meth.sig.returnType = (some .char)) {Q : State → Prop} : ∀ (M : gMem) (x0 : Nat) (x1 : Int32) (z : Int32 × gMem), b_J1_charAt_3b067_0 Z M x0 x1 = some z → (fun (r : Int32 × gMem) => Q = gMQ below D cy B H0 args s 0 0 (some (vI r.1)) r.2) z → gGo p l e rJ1_charAt_3b067 s m args below meth c D cy B H0 2 0 0 Q 0 [(0, vR (some (Z (300 + x0)))), (1, vI x1)] [] M := by
  intro M x0 x1 z hf hK
  unfold b_J1_charAt_3b067_0 at hf
  refine g_iload_n X dJ1_charAt_3b067_0 rfl rfl ?_
  refine g_aload_n X dJ1_charAt_3b067_1 rfl rfl ?_
  obtain ⟨hg1, hf⟩ := ck_e hf
  refine g_alenT X (gSt_sb X hg1) rfl dJ1_charAt_3b067_2 ?_
  obtain ⟨r2, M2, hq2, hf⟩ := bd_e hf
  refine g_callS (As := [vI x1, vI (Int32.ofNat (sLn x0))]) (st := []) (v := none) (M1 := M2) X (m_J0_checkIndex_df160 l hq2) (va_cwS 2 X.2.2.1 gJ1_charAt_3b067_J0_checkIndex_df160 rfl rfl rfl (by decide +kernel) ⟨Nat.le_of_ble_eq_true rfl, Nat.le_of_ble_eq_true rfl⟩) rfl rfl (Nat.le_of_ble_eq_true rfl) dJ1_charAt_3b067_3 ⟨by decide, by decide⟩ ?_
  refine g_aload_n X dJ1_charAt_3b067_6 rfl rfl ?_
  refine g_iload_n X dJ1_charAt_3b067_7 rfl rfl ?_
  obtain ⟨hg3, hf⟩ := ck_e hf
  refine g_baldT (w := sBy x0 x1.toNatClampNeg) X (gSt_sb X hg1) rfl (gin_nn hg3) (gin_lt hg3) rfl dJ1_charAt_3b067_8 ?_
  refine g_sipush (v := (255 : Int32)) X dJ1_charAt_3b067_9 (by decide) ?_
  refine g_iand X dJ1_charAt_3b067_12 ?_
  refine g_i2c X dJ1_charAt_3b067_13 ?_
  obtain ⟨hg4, hf⟩ := ck_e hf
  cases hf
  refine g_eqQ hK ?_
  exact g_zret X hr (gnc hg4) dJ1_charAt_3b067_14
set_option maxHeartbeats 4000000 in
set_option maxRecDepth 100000 in
theorem m_J1_charAt_3b067 (l : Launch) {D : va_G} {cy : Nat → ClassId} {B : Nat} {H0 : Heap} {Z : Nat → Nat} {M M1 : gMem} {x0 : Nat} {x1 : Int32} {r : Int32} (hf : f_J1_charAt_3b067 Z M x0 x1 = some (r, M1)) : Met l yJ1_charAt_3b067 wsJ1_charAt_3b067 rJ1_charAt_3b067 (va_Pc (List.map gv [vR (some (Z (300 + x0))), vI x1]) (gPre D cy B H0 (gSt Z B H0) M)) (gQ D cy B H0 (some (vI r)) M1) 0 0 (gA B) := by
  refine Met.ofW (cc := cJ1_charAt_3b067) (maxL := 2) (ret := (some .char)) (by decide) rfl ?_
  intro p e s m args below meth c s₁ Bd hml hv
  obtain ⟨rfl, hW, hKK, hFs⟩ := hv
  have X : gX p s m _ meth c D cy B (gSt Z B H0) RJ1 cJ1_charAt_3b067 wsJ1_charAt_3b067 2 := ⟨Bd.exec, Bd.bytes, atoms_spec (ws := wsJ1_charAt_3b067) Bd.pre, findClass_of_methodNamed Bd.named, hml, hKK, by rw [hW.1]; exact hW.2.1, Bd.notSynchronized, hFs⟩
  have hr := Bd.returns
  have hl := lv_entry ([.ref (Z (300 + x0)), .int x1]) (n := 2) (Nat.le_of_ble_eq_true rfl)
  show W p l e rJ1_charAt_3b067 s m _ below meth c s.heap [] 0 0 _ (entryFrame m ([.ref (Z (300 + x0)), .int x1] : List Value).toArray 2)
  rw [lg_entry_eq]
  generalize (lg_sl ([.ref (Z (300 + x0)), .int x1]) ++ List.replicate (2 - (lg_sl ([.ref (Z (300 + x0)), .int x1])).length) Slot.unset).toArray = ls at hl ⊢
  have hl : lv_has ls 2 (List.map gq [(0, vR (some (Z (300 + x0)))), (1, vI x1)]) := hl
  exact t_J1_charAt_3b067_0 X hr _ _ _ _ hf rfl s.heap [] ls hW va_S.rf (lv_has_sub hl (lvsub_of _ _ [0, 1] rfl))
/-! ## java/lang/String.charAt(I)C -/
theorem dJ0_charAt_5068e_0 : decode cJ0_charAt_5068e 0 = .ok (.aload_n 0, 1) := by decide +kernel
theorem dJ0_charAt_5068e_1 : decode cJ0_charAt_5068e 1 = .ok (.invokevirtual 492, 3) := by decide +kernel
theorem dJ0_charAt_5068e_4 : decode cJ0_charAt_5068e 4 = .ok (.ifCond .eq 12, 3) := by decide +kernel
theorem dJ0_charAt_5068e_7 : decode cJ0_charAt_5068e 7 = .ok (.aload_n 0, 1) := by decide +kernel
theorem dJ0_charAt_5068e_8 : decode cJ0_charAt_5068e 8 = .ok (.getfield 9, 3) := by decide +kernel
theorem dJ0_charAt_5068e_11 : decode cJ0_charAt_5068e 11 = .ok (.iload_n 1, 1) := by decide +kernel
theorem dJ0_charAt_5068e_12 : decode cJ0_charAt_5068e 12 = .ok (.invokestatic 495, 3) := by decide +kernel
theorem dJ0_charAt_5068e_15 : decode cJ0_charAt_5068e 15 = .ok (.ireturn, 1) := by decide +kernel
theorem dJ0_charAt_5068e_16 : decode cJ0_charAt_5068e 16 = .ok (.aload_n 0, 1) := by decide +kernel
set_option maxRecDepth 20000 in
theorem ggJ0_charAt_5068e_J0_isLatin1_aae02 : GoodIn wsJ0_charAt_5068e wsJ0_isLatin1_aae02 := goodIn_r _ [6, 7, 8, 38, 39, 40, 41] (by decide +kernel) (by decide +kernel)
set_option maxRecDepth 20000 in
theorem gJ0_charAt_5068e_J0_isLatin1_aae02 : GoodIn wsJ0_charAt_5068e (wsV RJ0 492 RJ0 yJ0_isLatin1_aae02 wsJ0_isLatin1_aae02) := goodIn_app (goodIn_of _ (by decide +kernel)) ggJ0_charAt_5068e_J0_isLatin1_aae02
set_option maxRecDepth 20000 in
theorem ggJ0_charAt_5068e_J1_charAt_3b067 : GoodIn wsJ0_charAt_5068e wsJ1_charAt_3b067 := goodIn_r _ [12, 13, 14, 5, 15, 16, 17, 18, 19, 20] (by decide +kernel) (by decide +kernel)
set_option maxRecDepth 20000 in
theorem gJ0_charAt_5068e_J1_charAt_3b067 : GoodIn wsJ0_charAt_5068e (va_wsS RJ0 495 yJ1_charAt_3b067 wsJ1_charAt_3b067) := goodIn_app (goodIn_of _ (by decide +kernel)) ggJ0_charAt_5068e_J1_charAt_3b067
theorem k_J0_charAt_5068e_f9 : Cond.fieldLink RJ0 9 "java/lang/String" "value" "[B" ∈ wsJ0_charAt_5068e := by decide +kernel
abbrev rJ0_charAt_5068e : Room := { frames := 3, cells := 0, slots := 0, locals := 64 }
noncomputable def b_J0_charAt_5068e_0 (Z : Nat → Nat) (M : gMem) (x0 : Nat) (x1 : Int32) : Option (Int32 × gMem) :=
  ck (x0 < 94) <| bd (f_J0_isLatin1_aae02 Z M x0) fun r1 M1 => (if r1 = 0 then none else bd (f_J1_charAt_3b067 Z M1 x0 x1) fun r3 M3 => ck (i2cV r3 = r3) <| some (r3, M3))
noncomputable def f_J0_charAt_5068e (Z : Nat → Nat) (M : gMem) (x0 : Nat) (x1 : Int32) : Option (Int32 × gMem) :=
  b_J0_charAt_5068e_0 Z M x0 x1
set_option maxHeartbeats 4000000 in
set_option maxRecDepth 100000 in
theorem t_J0_charAt_5068e_0 (X : gX p s m args meth c D cy B (gSt Z B H0) RJ0 cJ0_charAt_5068e wsJ0_charAt_5068e 2) (hr : meth.sig.returnType = (some .char)) {Q : State → Prop} : ∀ (M : gMem) (x0 : Nat) (x1 : Int32) (z : Int32 × gMem), b_J0_charAt_5068e_0 Z M x0 x1 = some z → (fun (r : Int32 × gMem) => Q = gMQ below D cy B H0 args s 0 0 (some (vI r.1)) r.2) z → gGo p l e rJ0_charAt_5068e s m args below meth c D cy B H0 2 0 0 Q 0 [(0, vR (some (Z (100 + x0)))), (1, vI x1)] [] M := by
  intro M x0 x1 z hf hK
  unfold b_J0_charAt_5068e_0 at hf
  refine g_aload_n X dJ0_charAt_5068e_0 rfl rfl ?_
  obtain ⟨hg2, hf⟩ := ck_e hf
  obtain ⟨r1, M1, hq1, hf⟩ := bd_e hf
  refine g_callV0 (C := RJ0) (b := (Z (100 + x0))) (As := []) (st := []) (v := some (vI r1)) (M1 := M1) X (m_J0_isLatin1_aae02 l hq1) (cwV 0 X.2.2.1 gJ0_charAt_5068e_J0_isLatin1_aae02 rfl rfl rfl (by decide +kernel) ⟨Nat.le_of_ble_eq_true rfl, Nat.le_of_ble_eq_true rfl⟩) rfl rfl rfl (fun H hW => gO_recv (gSt_sO X hg2) hW) (Nat.le_of_ble_eq_true rfl) dJ0_charAt_5068e_1 ⟨by decide, by decide⟩ ?_
  refine g_if_eq (tgt := 16) X dJ0_charAt_5068e_4 (by decide) (fun hc => ?_) (fun hc => ?_)
  · have hf := ife_t hc hf
    cases hf
  · have hf := ife_f hc hf
    refine g_aload_n X dJ0_charAt_5068e_7 rfl rfl ?_
    refine g_getO (w := vR (some (Z (300 + x0)))) X (gSt_sv X hg2) rfl k_J0_charAt_5068e_f9 rfl dJ0_charAt_5068e_8 ?_
    refine g_iload_n X dJ0_charAt_5068e_11 rfl rfl ?_
    obtain ⟨r3, M3, hq3, hf⟩ := bd_e hf
    refine g_callS (As := [vR (some (Z (300 + x0))), vI x1]) (st := []) (v := some (vI r3)) (M1 := M3) X (m_J1_charAt_3b067 l hq3) (va_cwS 2 X.2.2.1 gJ0_charAt_5068e_J1_charAt_3b067 rfl rfl rfl (by decide +kernel) ⟨Nat.le_of_ble_eq_true rfl, Nat.le_of_ble_eq_true rfl⟩) rfl rfl (Nat.le_of_ble_eq_true rfl) dJ0_charAt_5068e_12 ⟨by decide, by decide⟩ ?_
    obtain ⟨hg4, hf⟩ := ck_e hf
    cases hf
    refine g_eqQ hK ?_
    exact g_zret X hr (gnc hg4) dJ0_charAt_5068e_15
set_option maxHeartbeats 4000000 in
set_option maxRecDepth 100000 in
theorem m_J0_charAt_5068e (l : Launch) {D : va_G} {cy : Nat → ClassId} {B : Nat} {H0 : Heap} {Z : Nat → Nat} {M M1 : gMem} {x0 : Nat} {x1 : Int32} {r : Int32} (hf : f_J0_charAt_5068e Z M x0 x1 = some (r, M1)) : Met l yJ0_charAt_5068e wsJ0_charAt_5068e rJ0_charAt_5068e (va_Pc (Value.ref (Z (100 + x0)) :: List.map gv [vI x1]) (gPre D cy B H0 (gSt Z B H0) M)) (gQ D cy B H0 (some (vI r)) M1) 0 0 (gA B) := by
  refine Met.ofW (cc := cJ0_charAt_5068e) (maxL := 2) (ret := (some .char)) (by decide) rfl ?_
  intro p e s m args below meth c s₁ Bd hml hv
  obtain ⟨rfl, hW, hKK, hFs⟩ := hv
  have X : gX p s m _ meth c D cy B (gSt Z B H0) RJ0 cJ0_charAt_5068e wsJ0_charAt_5068e 2 := ⟨Bd.exec, Bd.bytes, atoms_spec (ws := wsJ0_charAt_5068e) Bd.pre, findClass_of_methodNamed Bd.named, hml, hKK, by rw [hW.1]; exact hW.2.1, Bd.notSynchronized, hFs⟩
  have hr := Bd.returns
  have hl := lv_entry ([.ref (Z (100 + x0)), .int x1]) (n := 2) (Nat.le_of_ble_eq_true rfl)
  show W p l e rJ0_charAt_5068e s m _ below meth c s.heap [] 0 0 _ (entryFrame m ([.ref (Z (100 + x0)), .int x1] : List Value).toArray 2)
  rw [lg_entry_eq]
  generalize (lg_sl ([.ref (Z (100 + x0)), .int x1]) ++ List.replicate (2 - (lg_sl ([.ref (Z (100 + x0)), .int x1])).length) Slot.unset).toArray = ls at hl ⊢
  have hl : lv_has ls 2 (List.map gq [(0, vR (some (Z (100 + x0)))), (1, vI x1)]) := hl
  exact t_J0_charAt_5068e_0 X hr _ _ _ _ hf rfl s.heap [] ls hW va_S.rf (lv_has_sub hl (lvsub_of _ _ [0, 1] rfl))
end
