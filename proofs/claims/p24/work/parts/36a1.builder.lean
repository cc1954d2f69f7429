section
variable {p : Program} {l : Launch} {e : Env} {s : State} {m : MethodId} {args : Array Value} {below : List Frame} {meth : Method} {c : Code} {D : va_G} {cy : Nat → ClassId} {B : Nat} {H0 : Heap} {Z : Nat → Nat}
/-! ## java/lang/AbstractStringBuilder.<init>(I)V -/
theorem dJ5_init_d00df_0 : decode cJ5_init_d00df 0 = .ok (.aload_n 0, 1) := by decide +kernel
theorem dJ5_init_d00df_1 : decode cJ5_init_d00df 1 = .ok (.invokespecial 3, 3) := by decide +kernel
theorem dJ5_init_d00df_4 : decode cJ5_init_d00df 4 = .ok (.getstatic 18, 3) := by decide +kernel
theorem dJ5_init_d00df_7 : decode cJ5_init_d00df 7 = .ok (.ifCond .eq 18, 3) := by decide +kernel
theorem dJ5_init_d00df_10 : decode cJ5_init_d00df 10 = .ok (.aload_n 0, 1) := by decide +kernel
theorem dJ5_init_d00df_11 : decode cJ5_init_d00df 11 = .ok (.iload_n 1, 1) := by decide +kernel
theorem dJ5_init_d00df_12 : decode cJ5_init_d00df 12 = .ok (.newarray .byte, 2) := by decide +kernel
theorem dJ5_init_d00df_14 : decode cJ5_init_d00df 14 = .ok (.putfield 15, 3) := by decide +kernel
theorem dJ5_init_d00df_17 : decode cJ5_init_d00df 17 = .ok (.aload_n 0, 1) := by decide +kernel
theorem dJ5_init_d00df_18 : decode cJ5_init_d00df 18 = .ok (.iconst 0, 1) := by decide +kernel
theorem dJ5_init_d00df_19 : decode cJ5_init_d00df 19 = .ok (.putfield 22, 3) := by decide +kernel
theorem dJ5_init_d00df_22 : decode cJ5_init_d00df 22 = .ok (.goto 16, 3) := by decide +kernel
theorem dJ5_init_d00df_25 : decode cJ5_init_d00df 25 = .ok (.aload_n 0, 1) := by decide +kernel
theorem dJ5_init_d00df_38 : decode cJ5_init_d00df 38 = .ok (.return_, 1) := by decide +kernel
theorem k_J5_init_d00df_oi1 : Cond.methodLink RJ5 3 objectInit ∈ wsJ5_init_d00df := by decide +kernel
theorem k_J5_init_d00df_oi2 : Cond.instanceMethod objectInit ∈ wsJ5_init_d00df := by decide +kernel
theorem k_J5_init_d00df_oi3 : Cond.code objectInit ⟨#[0xb1]⟩ 1 none ∈ wsJ5_init_d00df := by decide +kernel
theorem k_J5_init_d00df_f18 : Cond.fieldLink RJ5 18 "java/lang/String" "COMPACT_STRINGS" "Z" ∈ wsJ5_init_d00df := by decide +kernel
theorem k_J5_init_d00df_acbyte : Cond.arrayClass .byte ∈ wsJ5_init_d00df := by decide +kernel
theorem k_J5_init_d00df_f15 : Cond.fieldLink RJ5 15 "java/lang/AbstractStringBuilder" "value" "[B" ∈ wsJ5_init_d00df := by decide +kernel
theorem i_J5_init_d00df_J4 : ∀ w ∈ u_ws RJ4 TJ4 4, w ∈ wsJ5_init_d00df := by decide +kernel
theorem k_J5_init_d00df_f22 : Cond.fieldLink RJ5 22 "java/lang/AbstractStringBuilder" "coder" "B" ∈ wsJ5_init_d00df := by decide +kernel
abbrev rJ5_init_d00df : Room := { frames := 1, cells := 1, slots := 16, locals := 12 }
noncomputable def b_J5_init_d00df_0 (Z : Nat → Nat) (M : gMem) (x0 : Nat) (x1 : Int32) : Option (Unit × gMem) :=
  ck (¬ x1 < 0) <| ck (x1.toNatClampNeg ≤ 16) <| lw (nW M 22 x1.toNatClampNeg) fun M3 => ck (mT M3 x0 = 13) <| lw (wR M3 x0 0 ((some (mN M)))) fun M5 => lw (wI M5 x0 1 ((0 : Int32))) fun M7 => some ((), M7)
noncomputable def f_J5_init_d00df (Z : Nat → Nat) (M : gMem) (x0 : Nat) (x1 : Int32) : Option (Unit × gMem) :=
  b_J5_init_d00df_0 Z M x0 x1
set_option maxHeartbeats 4000000 in
set_option maxRecDepth 100000 in
theorem t_J5_init_d00df_0 (X : gX p s m args meth c D cy B (gSt Z B H0) RJ5 cJ5_init_d00df wsJ5_init_d00df 2) (hr : meth.sig.returnType = none) (hin : meth.name = "<init>") {Q : State → Prop} : ∀ (M : gMem) (x0 : Nat) (x1 : Int32) (z : Unit × gMem), b_J5_init_d00df_0 Z M x0 x1 = some z → (fun (r : Unit × gMem) => Q = gMQ below D cy B H0 args s 1 16 none r.2) z → gGo p l e rJ5_init_d00df s m args below meth c D cy B H0 2 0 0 Q 0 [(0, vR (some x0)), (1, vI x1)] [] M := by
  intro M x0 x1 z hf hK
  unfold b_J5_init_d00df_0 at hf
  refine g_aload_n X dJ5_init_d00df_0 rfl rfl ?_
  refine g_objInit (i9 := 0) (b := x0) X k_J5_init_d00df_oi1 k_J5_init_d00df_oi2 k_J5_init_d00df_oi3 rfl dJ5_init_d00df_1 (Nat.le_of_ble_eq_true rfl) (Nat.le_of_ble_eq_true rfl) ?_
  refine g_gets (w := vI 1) X (gSt_CS X) k_J5_init_d00df_f18 rfl dJ5_init_d00df_4 ?_
  refine g_if_eq (tgt := 25) X dJ5_init_d00df_7 (by decide) (fun hc => absurd hc (by decide)) (fun _ => ?_)
  refine g_aload_n X dJ5_init_d00df_10 rfl rfl ?_
  refine g_iload_n X dJ5_init_d00df_11 rfl rfl ?_
  obtain ⟨hg1, hf⟩ := ck_e hf
  obtain ⟨hg2, hf⟩ := ck_e hf
  refine g_newa (at' := .byte) (t0 := 0) X k_J5_init_d00df_acbyte (by exact Or.inr (Or.inr (Or.inl ⟨rfl, rfl⟩))) hg1 (by omega) ⟨(by decide), Nat.le_trans (Nat.add_le_add_left hg2 _) (by decide)⟩ dJ5_init_d00df_12 ?_
  refine g_wide (k' := 1) (n' := 16) (Nat.le_refl _) (Nat.add_le_add_left hg2 _) ?_
  obtain ⟨M3, hM3, hf⟩ := lw_e hf
  rw [← hM3]
  obtain ⟨hT4, hf⟩ := ck_e hf
  refine g_putR (ci := 12) 0 X cdJ4 i_J5_init_d00df_J4 (by decide) k_J5_init_d00df_f15 rfl dJ5_init_d00df_14 rfl hT4 (Or.inl rfl) (gnA _ _) (gfA _ _) rfl ?_
  obtain ⟨M5, hM5, hf⟩ := lw_e hf
  rw [← hM5]
  have hT6 : mT M5 x0 = 13 := by rw [hM5]; exact hT4
  refine g_aload_n X dJ5_init_d00df_17 rfl rfl ?_
  refine g_iconst (v := (0 : Int32)) X dJ5_init_d00df_18 (by decide) ?_
  refine g_putI (ci := 12) 1 X cdJ4 i_J5_init_d00df_J4 (by decide) k_J5_init_d00df_f22 rfl dJ5_init_d00df_19 rfl hT6 (Or.inl rfl) rfl rfl rfl ?_
  obtain ⟨M7, hM7, hf⟩ := lw_e hf
  rw [← hM7]
  have hT8 : mT M7 x0 = 13 := by rw [hM7]; exact hT6
  refine g_goto (tgt := 38) X dJ5_init_d00df_22 (by decide) ?_
  cases hf
  refine g_eqQ hK ?_
  exact g_vret X hr dJ5_init_d00df_38
set_option maxHeartbeats 4000000 in
set_option maxRecDepth 100000 in
theorem m_J5_init_d00df (l : Launch) {D : va_G} {cy : Nat → ClassId} {B : Nat} {H0 : Heap} {Z : Nat → Nat} {M M1 : gMem} {x0 : Nat} {x1 : Int32} {r : Unit} (hf : f_J5_init_d00df Z M x0 x1 = some (r, M1)) : Met l yJ5_init_d00df wsJ5_init_d00df rJ5_init_d00df (va_Pc (Value.ref x0 :: List.map gv [vI x1]) (gPre D cy B H0 (gSt Z B H0) M)) (gQ D cy B H0 none M1) 1 16 (gA B) := by
  refine Met.ofW (cc := cJ5_init_d00df) (maxL := 2) (ret := none) (by decide) rfl ?_
  intro p e s m args below meth c s₁ Bd hml hv
  obtain ⟨rfl, hW, hKK, hFs⟩ := hv
  have X : gX p s m _ meth c D cy B (gSt Z B H0) RJ5 cJ5_init_d00df wsJ5_init_d00df 2 := ⟨Bd.exec, Bd.bytes, atoms_spec (ws := wsJ5_init_d00df) Bd.pre, findClass_of_methodNamed Bd.named, hml, hKK, by rw [hW.1]; exact hW.2.1, Bd.notSynchronized, hFs⟩
  have hr := Bd.returns
  have hin : meth.name = "<init>" := (name_of_methodNamed Bd.named Bd.method).1
  have hl := lv_entry ([.ref x0, .int x1]) (n := 2) (Nat.le_of_ble_eq_true rfl)
  show W p l e rJ5_init_d00df s m _ below meth c s.heap [] 0 0 _ (entryFrame m ([.ref x0, .int x1] : List Value).toArray 2)
  rw [lg_entry_eq]
  generalize (lg_sl ([.ref x0, .int x1]) ++ List.replicate (2 - (lg_sl ([.ref x0, .int x1])).length) Slot.unset).toArray = ls at hl ⊢
  have hl : lv_has ls 2 (List.map gq [(0, vR (some x0)), (1, vI x1)]) := hl
  exact t_J5_init_d00df_0 X hr hin _ _ _ _ hf rfl s.heap [] ls hW va_S.rf (lv_has_sub hl (lvsub_of _ _ [0, 1] rfl))
/-! ## java/lang/StringBuilder.<init>()V -/
theorem dJ4_init_da8c8_0 : decode cJ4_init_da8c8 0 = .ok (.aload_n 0, 1) := by decide +kernel
theorem dJ4_init_da8c8_1 : decode cJ4_init_da8c8 1 = .ok (.bipush 16, 2) := by decide +kernel
theorem dJ4_init_da8c8_3 : decode cJ4_init_da8c8 3 = .ok (.invokespecial 1, 3) := by decide +kernel
theorem dJ4_init_da8c8_6 : decode cJ4_init_da8c8 6 = .ok (.return_, 1) := by decide +kernel
set_option maxRecDepth 20000 in
theorem ggJ4_init_da8c8_J5_init_d00df : GoodIn wsJ4_init_da8c8 wsJ5_init_d00df := goodIn_r _ [4, 5, 6, 7, 8, 9, 10, 11, 12, 13, 14, 15, 16, 17, 18, 19, 20, 21, 22, 23] (by decide +kernel) (by decide +kernel)
set_option maxRecDepth 20000 in
theorem gJ4_init_da8c8_J5_init_d00df : GoodIn wsJ4_init_da8c8 (wsJ5_init_d00df) := ggJ4_init_da8c8_J5_init_d00df
theorem k_J4_init_da8c8_iiJ5 : Cond.initialized RJ5 ∈ wsJ4_init_da8c8 := by decide +kernel
theorem k_J4_init_da8c8_ml1 : Cond.methodLink RJ4 1 yJ5_init_d00df ∈ wsJ4_init_da8c8 := by decide +kernel
theorem k_J4_init_da8c8_imJ5_init_d00df : Cond.instanceMethod yJ5_init_d00df ∈ wsJ4_init_da8c8 := by decide +kernel
abbrev rJ4_init_da8c8 : Room := { frames := 2, cells := 1, slots := 16, locals := 33 }
noncomputable def b_J4_init_da8c8_0 (Z : Nat → Nat) (M : gMem) (x0 : Nat) : Option (Unit × gMem) :=
  bd (f_J5_init_d00df Z M x0 ((16 : Int32))) fun _ M1 => some ((), M1)
noncomputable def f_J4_init_da8c8 (Z : Nat → Nat) (M : gMem) (x0 : Nat) : Option (Unit × gMem) :=
  b_J4_init_da8c8_0 Z M x0
set_option maxHeartbeats 4000000 in
set_option maxRecDepth 100000 in
theorem t_J4_init_da8c8_0 (X : gX p s m args meth c D cy B (gSt Z B H0) RJ4 cJ4_init_da8c8 wsJ4_init_da8c8 1) (hr : meth.sig.returnType = none) (hin : meth.name = "<init>") {Q : State → Prop} : ∀ (M : gMem) (x0 : Nat) (z : Unit × gMem), b_J4_init_da8c8_0 Z M x0 = some z → (fun (r : Unit × gMem) => Q = gMQ below D cy B H0 args s 1 16 none r.2) z → gGo p l e rJ4_init_da8c8 s m args below meth c D cy B H0 1 0 0 Q 0 [(0, vR (some x0))] [] M := by
  intro M x0 z hf hK
  unfold b_J4_init_da8c8_0 at hf
  refine g_aload_n X dJ4_init_da8c8_0 rfl rfl ?_
  refine g_bipush (v := (16 : Int32)) X dJ4_init_da8c8_1 (by decide) ?_
  obtain ⟨r1, M1, hq1, hf⟩ := bd_e hf
  refine g_callI (b := x0) (As := [vI (16 : Int32)]) (st := []) (M1 := M1) X (m_J5_init_d00df l hq1) (cwI 1 X.2.2.1 gJ4_init_da8c8_J5_init_d00df rfl rfl rfl (X.2.2.1 _ k_J4_init_da8c8_iiJ5) (X.2.2.1 _ k_J4_init_da8c8_ml1) (X.2.2.1 _ k_J4_init_da8c8_imJ5_init_d00df) rfl (by decide +kernel) ⟨Nat.le_of_ble_eq_true rfl, Nat.le_of_ble_eq_true rfl⟩) rfl rfl rfl (Nat.le_of_ble_eq_true rfl) dJ4_init_da8c8_3 ⟨by decide, by decide⟩ ?_
  cases hf
  refine g_eqQ hK ?_
  exact g_vret X hr dJ4_init_da8c8_6
set_option maxHeartbeats 4000000 in
set_option maxRecDepth 100000 in
theorem m_J4_init_da8c8 (l : Launch) {D : va_G} {cy : Nat → ClassId} {B : Nat} {H0 : Heap} {Z : Nat → Nat} {M M1 : gMem} {x0 : Nat} {r : Unit} (hf : f_J4_init_da8c8 Z M x0 = some (r, M1)) : Met l yJ4_init_da8c8 wsJ4_init_da8c8 rJ4_init_da8c8 (va_Pc (Value.ref x0 :: List.map gv []) (gPre D cy B H0 (gSt Z B H0) M)) (gQ D cy B H0 none M1) 1 16 (gA B) := by
  refine Met.ofW (cc := cJ4_init_da8c8) (maxL := 1) (ret := none) (by decide) rfl ?_
  intro p e s m args below meth c s₁ Bd hml hv
  obtain ⟨rfl, hW, hKK, hFs⟩ := hv
  have X : gX p s m _ meth c D cy B (gSt Z B H0) RJ4 cJ4_init_da8c8 wsJ4_init_da8c8 1 := ⟨Bd.exec, Bd.bytes, atoms_spec (ws := wsJ4_init_da8c8) Bd.pre, findClass_of_methodNamed Bd.named, hml, hKK, by rw [hW.1]; exact hW.2.1, Bd.notSynchronized, hFs⟩
  have hr := Bd.returns
  have hin : meth.name = "<init>" := (name_of_methodNamed Bd.named Bd.method).1
  have hl := lv_entry ([.ref x0]) (n := 1) (Nat.le_of_ble_eq_true rfl)
  show W p l e rJ4_init_da8c8 s m _ below meth c s.heap [] 0 0 _ (entryFrame m ([.ref x0] : List Value).toArray 1)
  rw [lg_entry_eq]
  generalize (lg_sl ([.ref x0]) ++ List.replicate (1 - (lg_sl ([.ref x0])).length) Slot.unset).toArray = ls at hl ⊢
  have hl : lv_has ls 1 (List.map gq [(0, vR (some x0))]) := hl
  exact t_J4_init_da8c8_0 X hr hin _ _ _ hf rfl s.heap [] ls hW va_S.rf (lv_has_sub hl (lvsub_of _ _ [0] rfl))
/-! ## java/lang/AbstractStringBuilder.isLatin1()Z -/
theorem dJ5_isLatin1_aae02_0 : decode cJ5_isLatin1_aae02 0 = .ok (.getstatic 18, 3) := by decide +kernel
theorem dJ5_isLatin1_aae02_3 : decode cJ5_isLatin1_aae02 3 = .ok (.ifCond .eq 14, 3) := by decide +kernel
theorem dJ5_isLatin1_aae02_6 : decode cJ5_isLatin1_aae02 6 = .ok (.aload_n 0, 1) := by decide +kernel
theorem dJ5_isLatin1_aae02_7 : decode cJ5_isLatin1_aae02 7 = .ok (.getfield 22, 3) := by decide +kernel
theorem dJ5_isLatin1_aae02_10 : decode cJ5_isLatin1_aae02 10 = .ok (.ifCond .ne 7, 3) := by decide +kernel
theorem dJ5_isLatin1_aae02_13 : decode cJ5_isLatin1_aae02 13 = .ok (.iconst 1, 1) := by decide +kernel
theorem dJ5_isLatin1_aae02_14 : decode cJ5_isLatin1_aae02 14 = .ok (.goto 4, 3) := by decide +kernel
theorem dJ5_isLatin1_aae02_17 : decode cJ5_isLatin1_aae02 17 = .ok (.iconst 0, 1) := by decide +kernel
theorem dJ5_isLatin1_aae02_18 : decode cJ5_isLatin1_aae02 18 = .ok (.ireturn, 1) := by decide +kernel
theorem k_J5_isLatin1_aae02_f18 : Cond.fieldLink RJ5 18 "java/lang/String" "COMPACT_STRINGS" "Z" ∈ wsJ5_isLatin1_aae02 := by decide +kernel
theorem k_J5_isLatin1_aae02_f22 : Cond.fieldLink RJ5 22 "java/lang/AbstractStringBuilder" "coder" "B" ∈ wsJ5_isLatin1_aae02 := by decide +kernel
theorem i_J5_isLatin1_aae02_J4 : ∀ w ∈ u_ws RJ4 TJ4 4, w ∈ wsJ5_isLatin1_aae02 := by decide +kernel
abbrev rJ5_isLatin1_aae02 : Room := { frames := 0, cells := 0, slots := 0, locals := 0 }
noncomputable def b_J5_isLatin1_aae02_18 (Z : Nat → Nat) (M : gMem) (s0 : Int32) : Option (Int32 × gMem) :=
  ck (s0 = 0 ∨ s0 = 1) <| some (s0, M)
noncomputable def b_J5_isLatin1_aae02_17 (Z : Nat → Nat) (M : gMem)  : Option (Int32 × gMem) :=
  b_J5_isLatin1_aae02_18 Z M ((0 : Int32))
noncomputable def b_J5_isLatin1_aae02_0 (Z : Nat → Nat) (M : gMem) (x0 : Nat) : Option (Int32 × gMem) :=
  ck (mT M x0 = 13) <| (if (mI M x0 1) = 0 then b_J5_isLatin1_aae02_18 Z M ((1 : Int32)) else b_J5_isLatin1_aae02_17 Z M )
noncomputable def f_J5_isLatin1_aae02 (Z : Nat → Nat) (M : gMem) (x0 : Nat) : Option (Int32 × gMem) :=
  b_J5_isLatin1_aae02_0 Z M x0
set_option maxHeartbeats 4000000 in
set_option maxRecDepth 100000 in
theorem t_J5_isLatin1_aae02_18 (X : gX p s m args meth c D cy B (gSt Z B H0) RJ5 cJ5_isLatin1_aae02 wsJ5_isLatin1_aae02 1) (hr : meth.sig.returnType = (some .boolean)) {Q : State → Prop} : ∀ (M : gMem) (s0 : Int32) (z : Int32 × gMem), b_J5_isLatin1_aae02_18 Z M s0 = some z → (fun (r : Int32 × gMem) => Q = gMQ below D cy B H0 args s 0 0 (some (vI r.1)) r.2) z → gGo p l e rJ5_isLatin1_aae02 s m args below meth c D cy B H0 1 0 0 Q 18 [] [vI s0] M := by
  intro M s0 z hf hK
  unfold b_J5_isLatin1_aae02_18 at hf
  obtain ⟨hg1, hf⟩ := ck_e hf
  cases hf
  refine g_eqQ hK ?_
  exact g_zret X hr (gnb hg1) dJ5_isLatin1_aae02_18
set_option maxHeartbeats 4000000 in
set_option maxRecDepth 100000 in
theorem t_J5_isLatin1_aae02_17 (X : gX p s m args meth c D cy B (gSt Z B H0) RJ5 cJ5_isLatin1_aae02 wsJ5_isLatin1_aae02 1) (hr : meth.sig.returnType = (some .boolean)) {Q : State → Prop} : ∀ (M : gMem)  (z : Int32 × gMem), b_J5_isLatin1_aae02_17 Z M  = some z → (fun (r : Int32 × gMem) => Q = gMQ below D cy B H0 args s 0 0 (some (vI r.1)) r.2) z → gGo p l e rJ5_isLatin1_aae02 s m args below meth c D cy B H0 1 0 0 Q 17 [] [] M := by
  intro M  z hf hK
  unfold b_J5_isLatin1_aae02_17 at hf
  refine g_iconst (v := (0 : Int32)) X dJ5_isLatin1_aae02_17 (by decide) ?_
  refine g_sub (lvsub_of _ _ [] rfl) ?_
  exact t_J5_isLatin1_aae02_18 X hr _ _ _ hf hK
set_option maxHeartbeats 4000000 in
set_option maxRecDepth 100000 in
theorem t_J5_isLatin1_aae02_0 (X : gX p s m args meth c D cy B (gSt Z B H0) RJ5 cJ5_isLatin1_aae02 wsJ5_isLatin1_aae02 1) (hr : meth.sig.returnType = (some .boolean)) {Q : State → Prop} : ∀ (M : gMem) (x0 : Nat) (z : Int32 × gMem), b_J5_isLatin1_aae02_0 Z M x0 = some z → (fun (r : Int32 × gMem) => Q = gMQ below D cy B H0 args s 0 0 (some (vI r.1)) r.2) z → gGo p l e rJ5_isLatin1_aae02 s m args below meth c D cy B H0 1 0 0 Q 0 [(0, vR (some x0))] [] M := by
  intro M x0 z hf hK
  unfold b_J5_isLatin1_aae02_0 at hf
  refine g_gets (w := vI 1) X (gSt_CS X) k_J5_isLatin1_aae02_f18 rfl dJ5_isLatin1_aae02_0 ?_
  refine g_if_eq (tgt := 17) X dJ5_isLatin1_aae02_3 (by decide) (fun hc => absurd hc (by decide)) (fun _ => ?_)
  refine g_aload_n X dJ5_isLatin1_aae02_6 rfl rfl ?_
  obtain ⟨hT2, hf⟩ := ck_e hf
  refine g_get (ci := 12) (v := vI (mI M x0 1)) 1 X cdJ4 i_J5_isLatin1_aae02_J4 (by decide) k_J5_isLatin1_aae02_f22 rfl dJ5_isLatin1_aae02_7 rfl hT2 rfl ?_
  refine g_if_ne (tgt := 17) X dJ5_isLatin1_aae02_10 (by decide) (fun hc => ?_) (fun hc => ?_)
  · have hf := ife_f hc hf
    refine g_sub (lvsub_of _ _ [] rfl) ?_
    exact t_J5_isLatin1_aae02_17 X hr _  _ hf hK
  · have hf := ife_t hc hf
    refine g_iconst (v := (1 : Int32)) X dJ5_isLatin1_aae02_13 (by decide) ?_
    refine g_goto (tgt := 18) X dJ5_isLatin1_aae02_14 (by decide) ?_
    refine g_sub (lvsub_of _ _ [] rfl) ?_
    exact t_J5_isLatin1_aae02_18 X hr _ _ _ hf hK
set_option maxHeartbeats 4000000 in
set_option maxRecDepth 100000 in
theorem m_J5_isLatin1_aae02 (l : Launch) {D : va_G} {cy : Nat → ClassId} {B : Nat} {H0 : Heap} {Z : Nat → Nat} {M M1 : gMem} {x0 : Nat} {r : Int32} (hf : f_J5_isLatin1_aae02 Z M x0 = some (r, M1)) : Met l yJ5_isLatin1_aae02 wsJ5_isLatin1_aae02 rJ5_isLatin1_aae02 (va_Pc (Value.ref x0 :: List.map gv []) (gPre D cy B H0 (gSt Z B H0) M)) (gQ D cy B H0 (some (vI r)) M1) 0 0 (gA B) := by
  refine Met.ofW (cc := cJ5_isLatin1_aae02) (maxL := 1) (ret := (some .boolean)) (by decide) rfl ?_
  intro p e s m args below meth c s₁ Bd hml hv
  obtain ⟨rfl, hW, hKK, hFs⟩ := hv
  have X : gX p s m _ meth c D cy B (gSt Z B H0) RJ5 cJ5_isLatin1_aae02 wsJ5_isLatin1_aae02 1 := ⟨Bd.exec, Bd.bytes, atoms_spec (ws := wsJ5_isLatin1_aae02) Bd.pre, findClass_of_methodNamed Bd.named, hml, hKK, by rw [hW.1]; exact hW.2.1, Bd.notSynchronized, hFs⟩
  have hr := Bd.returns
  have hl := lv_entry ([.ref x0]) (n := 1) (Nat.le_of_ble_eq_true rfl)
  show W p l e rJ5_isLatin1_aae02 s m _ below meth c s.heap [] 0 0 _ (entryFrame m ([.ref x0] : List Value).toArray 1)
  rw [lg_entry_eq]
  generalize (lg_sl ([.ref x0]) ++ List.replicate (1 - (lg_sl ([.ref x0])).length) Slot.unset).toArray = ls at hl ⊢
  have hl : lv_has ls 1 (List.map gq [(0, vR (some x0))]) := hl
  exact t_J5_isLatin1_aae02_0 X hr _ _ _ hf rfl s.heap [] ls hW va_S.rf (lv_has_sub hl (lvsub_of _ _ [0] rfl))
/-! ## java/lang/AbstractStringBuilder.length()I -/
theorem dJ5_length_8abf5_0 : decode cJ5_length_8abf5 0 = .ok (.aload_n 0, 1) := by decide +kernel
theorem dJ5_length_8abf5_1 : decode cJ5_length_8abf5 1 = .ok (.getfield 79, 3) := by decide +kernel
theorem dJ5_length_8abf5_4 : decode cJ5_length_8abf5 4 = .ok (.ireturn, 1) := by decide +kernel
theorem k_J5_length_8abf5_f79 : Cond.fieldLink RJ5 79 "java/lang/AbstractStringBuilder" "count" "I" ∈ wsJ5_length_8abf5 := by decide +kernel
theorem i_J5_length_8abf5_J4 : ∀ w ∈ u_ws RJ4 TJ4 4, w ∈ wsJ5_length_8abf5 := by decide +kernel
abbrev rJ5_length_8abf5 : Room := { frames := 0, cells := 0, slots := 0, locals := 0 }
noncomputable def b_J5_length_8abf5_0 (M : gMem) (x0 : Nat) : Option (Int32 × gMem) :=
  ck (mT M x0 = 13) <| some ((mI M x0 3), M)
noncomputable def f_J5_length_8abf5 (M : gMem) (x0 : Nat) : Option (Int32 × gMem) :=
  b_J5_length_8abf5_0 M x0
set_option maxHeartbeats 4000000 in
set_option maxRecDepth 100000 in
theorem t_J5_length_8abf5_0 (X : gX p s m args meth c D cy B (gSt Z B H0) RJ5 cJ5_length_8abf5 wsJ5_length_8abf5 1) (hr : meth.sig.returnType = (some .int)) {Q : State → Prop} : ∀ (M : gMem) (x0 : Nat) (z : Int32 × gMem), b_J5_length_8abf5_0 M x0 = some z → (fun (r : Int32 × gMem) => Q = gMQ below D cy B H0 args s 0 0 (some (vI r.1)) r.2) z → gGo p l e rJ5_length_8abf5 s m args below meth c D cy B H0 1 0 0 Q 0 [(0, vR (some x0))] [] M := by
  intro M x0 z hf hK
  unfold b_J5_length_8abf5_0 at hf
  refine g_aload_n X dJ5_length_8abf5_0 rfl rfl ?_
  obtain ⟨hT1, hf⟩ := ck_e hf
  refine g_get (ci := 12) (v := vI (mI M x0 3)) 3 X cdJ4 i_J5_length_8abf5_J4 (by decide) k_J5_length_8abf5_f79 rfl dJ5_length_8abf5_1 rfl hT1 rfl ?_
  cases hf
  refine g_eqQ hK ?_
  exact g_iret X hr dJ5_length_8abf5_4
set_option maxHeartbeats 4000000 in
set_option maxRecDepth 100000 in
theorem m_J5_length_8abf5 (l : Launch) {D : va_G} {cy : Nat → ClassId} {B : Nat} {H0 : Heap} {Z : Nat → Nat} {M M1 : gMem} {x0 : Nat} {r : Int32} (hf : f_J5_length_8abf5 M x0 = some (r, M1)) : Met l yJ5_length_8abf5 wsJ5_length_8abf5 rJ5_length_8abf5 (va_Pc (Value.ref x0 :: List.map gv []) (gPre D cy B H0 (gSt Z B H0) M)) (gQ D cy B H0 (some (vI r)) M1) 0 0 (gA B) := by
  refine Met.ofW (cc := cJ5_length_8abf5) (maxL := 1) (ret := (some .int)) (by decide) rfl ?_
  intro p e s m args below meth c s₁ Bd hml hv
  obtain ⟨rfl, hW, hKK, hFs⟩ := hv
  have X : gX p s m _ meth c D cy B (gSt Z B H0) RJ5 cJ5_length_8abf5 wsJ5_length_8abf5 1 := ⟨Bd.exec, Bd.bytes, atoms_spec (ws := wsJ5_length_8abf5) Bd.pre, findClass_of_methodNamed Bd.named, hml, hKK, by rw [hW.1]; exact hW.2.1, Bd.notSynchronized, hFs⟩
  have hr := Bd.returns
  have hl := lv_entry ([.ref x0]) (n := 1) (Nat.le_of_ble_eq_true rfl)
  show W p l e rJ5_length_8abf5 s m _ below meth c s.heap [] 0 0 _ (entryFrame m ([.ref x0] : List Value).toArray 1)
  rw [lg_entry_eq]
  generalize (lg_sl ([.ref x0]) ++ List.replicate (1 - (lg_sl ([.ref x0])).length) Slot.unset).toArray = ls at hl ⊢
  have hl : lv_has ls 1 (List.map gq [(0, vR (some x0))]) := hl
  exact t_J5_length_8abf5_0 X hr _ _ _ hf rfl s.heap [] ls hW va_S.rf (lv_has_sub hl (lvsub_of _ _ [0] rfl))
/-! ## java/lang/AbstractStringBuilder.getValue()[B -/
theorem dJ5_getValue_6d5f1_0 : decode cJ5_getValue_6d5f1 0 = .ok (.aload_n 0, 1) := by decide +kernel
theorem dJ5_getValue_6d5f1_1 : decode cJ5_getValue_6d5f1 1 = .ok (.getfield 15, 3) := by decide +kernel
theorem dJ5_getValue_6d5f1_4 : decode cJ5_getValue_6d5f1 4 = .ok (.areturn, 1) := by decide +kernel
theorem k_J5_getValue_6d5f1_f15 : Cond.fieldLink RJ5 15 "java/lang/AbstractStringBuilder" "value" "[B" ∈ wsJ5_getValue_6d5f1 := by decide +kernel
theorem i_J5_getValue_6d5f1_J4 : ∀ w ∈ u_ws RJ4 TJ4 4, w ∈ wsJ5_getValue_6d5f1 := by decide +kernel
abbrev rJ5_getValue_6d5f1 : Room := { frames := 0, cells := 0, slots := 0, locals := 0 }
noncomputable def b_J5_getValue_6d5f1_0 (M : gMem) (x0 : Nat) : Option (Option Nat × gMem) :=
  ck (mT M x0 = 13) <| some ((mR M x0 0), M)
noncomputable def f_J5_getValue_6d5f1 (M : gMem) (x0 : Nat) : Option (Option Nat × gMem) :=
  b_J5_getValue_6d5f1_0 M x0
set_option maxHeartbeats 4000000 in
set_option maxRecDepth 100000 in
theorem t_J5_getValue_6d5f1_0 (X : gX p s m args meth c D cy B (gSt Z B H0) RJ5 cJ5_getValue_6d5f1 wsJ5_getValue_6d5f1 1) (hr : meth.sig.returnType = (some (.array .byte))) {Q : State → Prop} : ∀ (M : gMem) (x0 : Nat) (z : Option Nat × gMem), b_J5_getValue_6d5f1_0 M x0 = some z → (fun (r : Option Nat × gMem) => Q = gMQ below D cy B H0 args s 0 0 (some (vR r.1)) r.2) z → gGo p l e rJ5_getValue_6d5f1 s m args below meth c D cy B H0 1 0 0 Q 0 [(0, vR (some x0))] [] M := by
  intro M x0 z hf hK
  unfold b_J5_getValue_6d5f1_0 at hf
  refine g_aload_n X dJ5_getValue_6d5f1_0 rfl rfl ?_
  obtain ⟨hT1, hf⟩ := ck_e hf
  refine g_get (ci := 12) (v := vR (mR M x0 0)) 0 X cdJ4 i_J5_getValue_6d5f1_J4 (by decide) k_J5_getValue_6d5f1_f15 rfl dJ5_getValue_6d5f1_1 rfl hT1 rfl ?_
  cases hf
  refine g_eqQ hK ?_
  exact g_aret X hr (Or.inr ⟨_, rfl⟩) dJ5_getValue_6d5f1_4
set_option maxHeartbeats 4000000 in
set_option maxRecDepth 100000 in
theorem m_J5_getValue_6d5f1 (l : Launch) {D : va_G} {cy : Nat → ClassId} {B : Nat} {H0 : Heap} {Z : Nat → Nat} {M M1 : gMem} {x0 : Nat} {r : Option Nat} (hf : f_J5_getValue_6d5f1 M x0 = some (r, M1)) : Met l yJ5_getValue_6d5f1 wsJ5_getValue_6d5f1 rJ5_getValue_6d5f1 (va_Pc (Value.ref x0 :: List.map gv []) (gPre D cy B H0 (gSt Z B H0) M)) (gQ D cy B H0 (some (vR r)) M1) 0 0 (gA B) := by
  refine Met.ofW (cc := cJ5_getValue_6d5f1) (maxL := 1) (ret := (some (.array .byte))) (by decide) rfl ?_
  intro p e s m args below meth c s₁ Bd hml hv
  obtain ⟨rfl, hW, hKK, hFs⟩ := hv
  have X : gX p s m _ meth c D cy B (gSt Z B H0) RJ5 cJ5_getValue_6d5f1 wsJ5_getValue_6d5f1 1 := ⟨Bd.exec, Bd.bytes, atoms_spec (ws := wsJ5_getValue_6d5f1) Bd.pre, findClass_of_methodNamed Bd.named, hml, hKK, by rw [hW.1]; exact hW.2.1, Bd.notSynchronized, hFs⟩
  have hr := Bd.returns
  have hl := lv_entry ([.ref x0]) (n := 1) (Nat.le_of_ble_eq_true rfl)
  show W p l e rJ5_getValue_6d5f1 s m _ below meth c s.heap [] 0 0 _ (entryFrame m ([.ref x0] : List Value).toArray 1)
  rw [lg_entry_eq]
  generalize (lg_sl ([.ref x0]) ++ List.replicate (1 - (lg_sl ([.ref x0])).length) Slot.unset).toArray = ls at hl ⊢
  have hl : lv_has ls 1 (List.map gq [(0, vR (some x0))]) := hl
  exact t_J5_getValue_6d5f1_0 X hr _ _ _ hf rfl s.heap [] ls hW va_S.rf (lv_has_sub hl (lvsub_of _ _ [0] rfl))
/-! ## jdk/internal/util/ArraysSupport.newLength(III)I -/
theorem dJ8_newLength_cabcc_0 : decode cJ8_newLength_cabcc 0 = .ok (.iload_n 0, 1) := by decide +kernel
theorem dJ8_newLength_cabcc_1 : decode cJ8_newLength_cabcc 1 = .ok (.iload_n 1, 1) := by decide +kernel
theorem dJ8_newLength_cabcc_2 : decode cJ8_newLength_cabcc 2 = .ok (.iload_n 2, 1) := by decide +kernel
theorem dJ8_newLength_cabcc_3 : decode cJ8_newLength_cabcc 3 = .ok (.invokestatic 194, 3) := by decide +kernel
theorem dJ8_newLength_cabcc_6 : decode cJ8_newLength_cabcc 6 = .ok (.iadd, 1) := by decide +kernel
theorem dJ8_newLength_cabcc_7 : decode cJ8_newLength_cabcc 7 = .ok (.istore_n 3, 1) := by decide +kernel
theorem dJ8_newLength_cabcc_8 : decode cJ8_newLength_cabcc 8 = .ok (.iconst 0, 1) := by decide +kernel
theorem dJ8_newLength_cabcc_9 : decode cJ8_newLength_cabcc 9 = .ok (.iload_n 3, 1) := by decide +kernel
theorem dJ8_newLength_cabcc_10 : decode cJ8_newLength_cabcc 10 = .ok (.if_icmp .ge 11, 3) := by decide +kernel
theorem dJ8_newLength_cabcc_13 : decode cJ8_newLength_cabcc 13 = .ok (.iload_n 3, 1) := by decide +kernel
theorem dJ8_newLength_cabcc_14 : decode cJ8_newLength_cabcc 14 = .ok (.ldc 200, 2) := by decide +kernel
theorem dJ8_newLength_cabcc_16 : decode cJ8_newLength_cabcc 16 = .ok (.if_icmp .gt 5, 3) := by decide +kernel
theorem dJ8_newLength_cabcc_19 : decode cJ8_newLength_cabcc 19 = .ok (.iload_n 3, 1) := by decide +kernel
theorem dJ8_newLength_cabcc_20 : decode cJ8_newLength_cabcc 20 = .ok (.ireturn, 1) := by decide +kernel
theorem dJ8_newLength_cabcc_21 : decode cJ8_newLength_cabcc 21 = .ok (.iload_n 0, 1) := by decide +kernel
theorem k_J8_newLength_cabcc_m194 : Cond.methodLink RJ8 194 Lib.Math.max.name ∈ wsJ8_newLength_cabcc := by decide +kernel
theorem k_J8_newLength_cabcc_mmaxs : Cond.static Lib.Math.max.name ∈ wsJ8_newLength_cabcc := by decide +kernel
theorem k_J8_newLength_cabcc_mi : Cond.initialized "java/lang/Math" ∈ wsJ8_newLength_cabcc := by decide +kernel
theorem k_J8_newLength_cabcc_mmaxc : Cond.code Lib.Math.max.name Lib.Math.max.code 2 (some .int) ∈ wsJ8_newLength_cabcc := by decide +kernel
theorem k_J8_newLength_cabcc_c200 : Jvm.Cond.constant RJ8 200 (2147483639) ∈ wsJ8_newLength_cabcc := by decide +kernel
abbrev rJ8_newLength_cabcc : Room := { frames := 1, cells := 0, slots := 0, locals := 14 }
noncomputable def b_J8_newLength_cabcc_21 (M : gMem) (x0 : Int32) : Option (Int32 × gMem) :=
  none
noncomputable def b_J8_newLength_cabcc_0 (M : gMem) (x0 : Int32) (x1 : Int32) (x2 : Int32) : Option (Int32 × gMem) :=
  (if (x0 + (imax x1 x2)) ≤ (0 : Int32) then none else (if (2147483639 : Int32) < (x0 + (imax x1 x2)) then none else some ((x0 + (imax x1 x2)), M)))
noncomputable def f_J8_newLength_cabcc (M : gMem) (x0 : Int32) (x1 : Int32) (x2 : Int32) : Option (Int32 × gMem) :=
  b_J8_newLength_cabcc_0 M x0 x1 x2
set_option maxHeartbeats 4000000 in
set_option maxRecDepth 100000 in
theorem t_J8_newLength_cabcc_21 (X : gX p s m args meth c D cy B (gSt Z B H0) RJ8 cJ8_newLength_cabcc wsJ8_newLength_cabcc 4) (hr : meth.sig.returnType = (some .int)) {Q : State → Prop} : ∀ (M : gMem) (x0 : Int32) (z : Int32 × gMem), b_J8_newLength_cabcc_21 M x0 = some z → (fun (r : Int32 × gMem) => Q = gMQ below D cy B H0 args s 0 0 (some (vI r.1)) r.2) z → gGo p l e rJ8_newLength_cabcc s m args below meth c D cy B H0 4 0 0 Q 21 [(0, vI x0)] [] M := by
  intro M x0 z hf hK
  unfold b_J8_newLength_cabcc_21 at hf
  cases hf
set_option maxHeartbeats 4000000 in
set_option maxRecDepth 100000 in
theorem t_J8_newLength_cabcc_0 (X : gX p s m args meth c D cy B (gSt Z B H0) RJ8 cJ8_newLength_cabcc wsJ8_newLength_cabcc 4) (hr : meth.sig.returnType = (some .int)) {Q : State → Prop} : ∀ (M : gMem) (x0 : Int32) (x1 : Int32) (x2 : Int32) (z : Int32 × gMem), b_J8_newLength_cabcc_0 M x0 x1 x2 = some z → (fun (r : Int32 × gMem) => Q = gMQ below D cy B H0 args s 0 0 (some (vI r.1)) r.2) z → gGo p l e rJ8_newLength_cabcc s m args below meth c D cy B H0 4 0 0 Q 0 [(0, vI x0), (1, vI x1), (2, vI x2)] [] M := by
  intro M x0 x1 x2 z hf hK
  unfold b_J8_newLength_cabcc_0 at hf
  refine g_iload_n X dJ8_newLength_cabcc_0 rfl rfl ?_
  refine g_iload_n X dJ8_newLength_cabcc_1 rfl rfl ?_
  refine g_iload_n X dJ8_newLength_cabcc_2 rfl rfl ?_
  refine g_max X k_J8_newLength_cabcc_m194 k_J8_newLength_cabcc_mmaxs k_J8_newLength_cabcc_mi k_J8_newLength_cabcc_mmaxc (Nat.le_of_ble_eq_true rfl) (Nat.le_of_ble_eq_true rfl) ⟨by decide, by decide⟩ dJ8_newLength_cabcc_3 ?_
  refine g_iadd X dJ8_newLength_cabcc_6 ?_
  refine g_istore_n (lv' := [(3, vI (x0 + (imax x1 x2))), (0, vI x0), (1, vI x1), (2, vI x2)]) X dJ8_newLength_cabcc_7 rfl (by decide) rfl ?_
  refine g_iconst (v := (0 : Int32)) X dJ8_newLength_cabcc_8 (by decide) ?_
  refine g_iload_n X dJ8_newLength_cabcc_9 rfl rfl ?_
  refine g_icmp_ge (tgt := 21) X dJ8_newLength_cabcc_10 (by decide) (fun hc => ?_) (fun hc => ?_)
  · have hf := ife_t hc hf
    cases hf
  · have hf := ife_f hc hf
    refine g_iload_n X dJ8_newLength_cabcc_13 rfl rfl ?_
    refine g_ldc (v := (2147483639 : Int32)) X k_J8_newLength_cabcc_c200 dJ8_newLength_cabcc_14 ?_
    refine g_icmp_gt (tgt := 21) X dJ8_newLength_cabcc_16 (by decide) (fun hc => ?_) (fun hc => ?_)
    · have hf := ife_t hc hf
      cases hf
    · have hf := ife_f hc hf
      refine g_iload_n X dJ8_newLength_cabcc_19 rfl rfl ?_
      cases hf
      refine g_eqQ hK ?_
      exact g_iret X hr dJ8_newLength_cabcc_20
set_option maxHeartbeats 4000000 in
set_option maxRecDepth 100000 in
theorem m_J8_newLength_cabcc (l : Launch) {D : va_G} {cy : Nat → ClassId} {B : Nat} {H0 : Heap} {Z : Nat → Nat} {M M1 : gMem} {x0 : Int32} {x1 : Int32} {x2 : Int32} {r : Int32} (hf : f_J8_newLength_cabcc M x0 x1 x2 = some (r, M1)) : Met l yJ8_newLength_cabcc wsJ8_newLength_cabcc rJ8_newLength_cabcc (va_Pc (List.map gv [vI x0, vI x1, vI x2]) (gPre D cy B H0 (gSt Z B H0) M)) (gQ D cy B H0 (some (vI r)) M1) 0 0 (gA B) := by
  refine Met.ofW (cc := cJ8_newLength_cabcc) (maxL := 4) (ret := (some .int)) (by decide) rfl ?_
  intro p e s m args below meth c s₁ Bd hml hv
  obtain ⟨rfl, hW, hKK, hFs⟩ := hv
  have X : gX p s m _ meth c D cy B (gSt Z B H0) RJ8 cJ8_newLength_cabcc wsJ8_newLength_cabcc 4 := ⟨Bd.exec, Bd.bytes, atoms_spec (ws := wsJ8_newLength_cabcc) Bd.pre, findClass_of_methodNamed Bd.named, hml, hKK, by rw [hW.1]; exact hW.2.1, Bd.notSynchronized, hFs⟩
  have hr := Bd.returns
  have hl := lv_entry ([.int x0, .int x1, .int x2]) (n := 4) (Nat.le_of_ble_eq_true rfl)
  show W p l e rJ8_newLength_cabcc s m _ below meth c s.heap [] 0 0 _ (entryFrame m ([.int x0, .int x1, .int x2] : List Value).toArray 4)
  rw [lg_entry_eq]
  generalize (lg_sl ([.int x0, .int x1, .int x2]) ++ List.replicate (4 - (lg_sl ([.int x0, .int x1, .int x2])).length) Slot.unset).toArray = ls at hl ⊢
  have hl : lv_has ls 4 (List.map gq [(0, vI x0), (1, vI x1), (2, vI x2)]) := hl
  exact t_J8_newLength_cabcc_0 X hr _ _ _ _ _ hf rfl s.heap [] ls hW va_S.rf (lv_has_sub hl (lvsub_of _ _ [0, 1, 2] rfl))
/-! ## java/lang/AbstractStringBuilder.newCapacity(I)I -/
theorem dJ5_newCapacity_0f7a4_0 : decode cJ5_newCapacity_0f7a4 0 = .ok (.aload_n 0, 1) := by decide +kernel
theorem dJ5_newCapacity_0f7a4_1 : decode cJ5_newCapacity_0f7a4 1 = .ok (.getfield 15, 3) := by decide +kernel
theorem dJ5_newCapacity_0f7a4_4 : decode cJ5_newCapacity_0f7a4 4 = .ok (.arraylength, 1) := by decide +kernel
theorem dJ5_newCapacity_0f7a4_5 : decode cJ5_newCapacity_0f7a4 5 = .ok (.istore_n 2, 1) := by decide +kernel
theorem dJ5_newCapacity_0f7a4_6 : decode cJ5_newCapacity_0f7a4 6 = .ok (.iload_n 1, 1) := by decide +kernel
theorem dJ5_newCapacity_0f7a4_7 : decode cJ5_newCapacity_0f7a4 7 = .ok (.aload_n 0, 1) := by decide +kernel
theorem dJ5_newCapacity_0f7a4_8 : decode cJ5_newCapacity_0f7a4 8 = .ok (.getfield 22, 3) := by decide +kernel
theorem dJ5_newCapacity_0f7a4_11 : decode cJ5_newCapacity_0f7a4 11 = .ok (.ishl, 1) := by decide +kernel
theorem dJ5_newCapacity_0f7a4_12 : decode cJ5_newCapacity_0f7a4 12 = .ok (.istore_n 3, 1) := by decide +kernel
theorem dJ5_newCapacity_0f7a4_13 : decode cJ5_newCapacity_0f7a4 13 = .ok (.iload_n 3, 1) := by decide +kernel
theorem dJ5_newCapacity_0f7a4_14 : decode cJ5_newCapacity_0f7a4 14 = .ok (.iload_n 2, 1) := by decide +kernel
theorem dJ5_newCapacity_0f7a4_15 : decode cJ5_newCapacity_0f7a4 15 = .ok (.isub, 1) := by decide +kernel
theorem dJ5_newCapacity_0f7a4_16 : decode cJ5_newCapacity_0f7a4 16 = .ok (.istore 4, 2) := by decide +kernel
theorem dJ5_newCapacity_0f7a4_18 : decode cJ5_newCapacity_0f7a4 18 = .ok (.iload_n 2, 1) := by decide +kernel
theorem dJ5_newCapacity_0f7a4_19 : decode cJ5_newCapacity_0f7a4 19 = .ok (.iload 4, 2) := by decide +kernel
theorem dJ5_newCapacity_0f7a4_21 : decode cJ5_newCapacity_0f7a4 21 = .ok (.iload_n 2, 1) := by decide +kernel
theorem dJ5_newCapacity_0f7a4_22 : decode cJ5_newCapacity_0f7a4 22 = .ok (.iconst 2, 1) := by decide +kernel
theorem dJ5_newCapacity_0f7a4_23 : decode cJ5_newCapacity_0f7a4 23 = .ok (.aload_n 0, 1) := by decide +kernel
theorem dJ5_newCapacity_0f7a4_24 : decode cJ5_newCapacity_0f7a4 24 = .ok (.getfield 22, 3) := by decide +kernel
theorem dJ5_newCapacity_0f7a4_27 : decode cJ5_newCapacity_0f7a4 27 = .ok (.ishl, 1) := by decide +kernel
theorem dJ5_newCapacity_0f7a4_28 : decode cJ5_newCapacity_0f7a4 28 = .ok (.iadd, 1) := by decide +kernel
theorem dJ5_newCapacity_0f7a4_29 : decode cJ5_newCapacity_0f7a4 29 = .ok (.invokestatic 114, 3) := by decide +kernel
theorem dJ5_newCapacity_0f7a4_32 : decode cJ5_newCapacity_0f7a4 32 = .ok (.istore 5, 2) := by decide +kernel
theorem dJ5_newCapacity_0f7a4_34 : decode cJ5_newCapacity_0f7a4 34 = .ok (.iload 5, 2) := by decide +kernel
theorem dJ5_newCapacity_0f7a4_36 : decode cJ5_newCapacity_0f7a4 36 = .ok (.ldc 39, 2) := by decide +kernel
theorem dJ5_newCapacity_0f7a4_38 : decode cJ5_newCapacity_0f7a4 38 = .ok (.if_icmp .ne 13, 3) := by decide +kernel
theorem dJ5_newCapacity_0f7a4_41 : decode cJ5_newCapacity_0f7a4 41 = .ok (.new 120, 3) := by decide +kernel
theorem dJ5_newCapacity_0f7a4_51 : decode cJ5_newCapacity_0f7a4 51 = .ok (.iload 5, 2) := by decide +kernel
theorem dJ5_newCapacity_0f7a4_53 : decode cJ5_newCapacity_0f7a4 53 = .ok (.aload_n 0, 1) := by decide +kernel
theorem dJ5_newCapacity_0f7a4_54 : decode cJ5_newCapacity_0f7a4 54 = .ok (.getfield 22, 3) := by decide +kernel
theorem dJ5_newCapacity_0f7a4_57 : decode cJ5_newCapacity_0f7a4 57 = .ok (.ishr, 1) := by decide +kernel
theorem dJ5_newCapacity_0f7a4_58 : decode cJ5_newCapacity_0f7a4 58 = .ok (.ireturn, 1) := by decide +kernel
set_option maxRecDepth 20000 in
theorem ggJ5_newCapacity_0f7a4_J8_newLength_cabcc : GoodIn wsJ5_newCapacity_0f7a4 wsJ8_newLength_cabcc := goodIn_r _ [7, 8, 9, 10, 11, 12, 13, 14, 6, 15] (by decide +kernel) (by decide +kernel)
set_option maxRecDepth 20000 in
theorem gJ5_newCapacity_0f7a4_J8_newLength_cabcc : GoodIn wsJ5_newCapacity_0f7a4 (va_wsS RJ5 114 yJ8_newLength_cabcc wsJ8_newLength_cabcc) := goodIn_app (goodIn_of _ (by decide +kernel)) ggJ5_newCapacity_0f7a4_J8_newLength_cabcc
theorem k_J5_newCapacity_0f7a4_f15 : Cond.fieldLink RJ5 15 "java/lang/AbstractStringBuilder" "value" "[B" ∈ wsJ5_newCapacity_0f7a4 := by decide +kernel
theorem i_J5_newCapacity_0f7a4_J4 : ∀ w ∈ u_ws RJ4 TJ4 4, w ∈ wsJ5_newCapacity_0f7a4 := by decide +kernel
theorem k_J5_newCapacity_0f7a4_f22 : Cond.fieldLink RJ5 22 "java/lang/AbstractStringBuilder" "coder" "B" ∈ wsJ5_newCapacity_0f7a4 := by decide +kernel
theorem k_J5_newCapacity_0f7a4_c39 : Jvm.Cond.constant RJ5 39 (2147483647) ∈ wsJ5_newCapacity_0f7a4 := by decide +kernel
abbrev rJ5_newCapacity_0f7a4 : Room := { frames := 2, cells := 0, slots := 0, locals := 37 }
noncomputable def b_J5_newCapacity_0f7a4_0 (M : gMem) (x0 : Nat) (x1 : Int32) : Option (Int32 × gMem) :=
  ck (mT M x0 = 13) <| dr ((mR M x0 0)) fun a2 => ck (mT M a2 = 22) <| bd (f_J8_newLength_cabcc M ((Int32.ofNat (mL M a2))) (((x1 <<< ((mI M x0 1) &&& 31)) - (Int32.ofNat (mL M a2)))) (((Int32.ofNat (mL M a2)) + ((2 : Int32) <<< ((mI M x0 1) &&& 31))))) fun r4 M4 => (if r4 = (2147483647 : Int32) then none else ck (mT M4 x0 = 13) <| some ((r4 >>> ((mI M4 x0 1) &&& 31)), M4))
noncomputable def f_J5_newCapacity_0f7a4 (M : gMem) (x0 : Nat) (x1 : Int32) : Option (Int32 × gMem) :=
  b_J5_newCapacity_0f7a4_0 M x0 x1
set_option maxHeartbeats 4000000 in
set_option maxRecDepth 100000 in
theorem t_J5_newCapacity_0f7a4_0 (X : gX p s m args meth c D cy B (gSt Z B H0) RJ5 cJ5_newCapacity_0f7a4 wsJ5_newCapacity_0f7a4 6) (hr : meth.sig.returnType = (some .int)) {Q : State → Prop} : ∀ (M : gMem) (x0 : Nat) (x1 : Int32) (z : Int32 × gMem), b_J5_newCapacity_0f7a4_0 M x0 x1 = some z → (fun (r : Int32 × gMem) => Q = gMQ below D cy B H0 args s 0 0 (some (vI r.1)) r.2) z → gGo p l e rJ5_newCapacity_0f7a4 s m args below meth c D cy B H0 6 0 0 Q 0 [(0, vR (some x0)), (1, vI x1)] [] M := by
  intro M x0 x1 z hf hK
  unfold b_J5_newCapacity_0f7a4_0 at hf
  refine g_aload_n X dJ5_newCapacity_0f7a4_0 rfl rfl ?_
  obtain ⟨hT1, hf⟩ := ck_e hf
  refine g_get (ci := 12) (v := vR (mR M x0 0)) 0 X cdJ4 i_J5_newCapacity_0f7a4_J4 (by decide) k_J5_newCapacity_0f7a4_f15 rfl dJ5_newCapacity_0f7a4_1 rfl hT1 rfl ?_
  obtain ⟨a2, ha2, hf⟩ := dr_e hf
  obtain ⟨hT3, hf⟩ := ck_e hf
  refine g_alen (t0 := 2) X dJ5_newCapacity_0f7a4_4 ha2 hT3 (by decide) rfl ?_
  refine g_istore_n (lv' := [(2, vI (Int32.ofNat (mL M a2))), (0, vR (some x0)), (1, vI x1)]) X dJ5_newCapacity_0f7a4_5 rfl (by decide) rfl ?_
  refine g_iload_n X dJ5_newCapacity_0f7a4_6 rfl rfl ?_
  refine g_aload_n X dJ5_newCapacity_0f7a4_7 rfl rfl ?_
  refine g_get (ci := 12) (v := vI (mI M x0 1)) 1 X cdJ4 i_J5_newCapacity_0f7a4_J4 (by decide) k_J5_newCapacity_0f7a4_f22 rfl dJ5_newCapacity_0f7a4_8 rfl hT1 rfl ?_
  refine g_ishl X dJ5_newCapacity_0f7a4_11 ?_
  refine g_istore_n (lv' := [(3, vI (x1 <<< ((mI M x0 1) &&& 31))), (2, vI (Int32.ofNat (mL M a2))), (0, vR (some x0)), (1, vI x1)]) X dJ5_newCapacity_0f7a4_12 rfl (by decide) rfl ?_
  refine g_iload_n X dJ5_newCapacity_0f7a4_13 rfl rfl ?_
  refine g_iload_n X dJ5_newCapacity_0f7a4_14 rfl rfl ?_
  refine g_isub X dJ5_newCapacity_0f7a4_15 ?_
  refine g_istore (lv' := [(4, vI ((x1 <<< ((mI M x0 1) &&& 31)) - (Int32.ofNat (mL M a2)))), (3, vI (x1 <<< ((mI M x0 1) &&& 31))), (2, vI (Int32.ofNat (mL M a2))), (0, vR (some x0)), (1, vI x1)]) X dJ5_newCapacity_0f7a4_16 (by decide) rfl ?_
  refine g_iload_n X dJ5_newCapacity_0f7a4_18 rfl rfl ?_
  refine g_iload X dJ5_newCapacity_0f7a4_19 rfl ?_
  refine g_iload_n X dJ5_newCapacity_0f7a4_21 rfl rfl ?_
  refine g_iconst (v := (2 : Int32)) X dJ5_newCapacity_0f7a4_22 (by decide) ?_
  refine g_aload_n X dJ5_newCapacity_0f7a4_23 rfl rfl ?_
  refine g_get (ci := 12) (v := vI (mI M x0 1)) 1 X cdJ4 i_J5_newCapacity_0f7a4_J4 (by decide) k_J5_newCapacity_0f7a4_f22 rfl dJ5_newCapacity_0f7a4_24 rfl hT1 rfl ?_
  refine g_ishl X dJ5_newCapacity_0f7a4_27 ?_
  refine g_iadd X dJ5_newCapacity_0f7a4_28 ?_
  obtain ⟨r4, M4, hq4, hf⟩ := bd_e hf
  refine g_callS (As := [vI (Int32.ofNat (mL M a2)), vI ((x1 <<< ((mI M x0 1) &&& 31)) - (Int32.ofNat (mL M a2))), vI ((Int32.ofNat (mL M a2)) + ((2 : Int32) <<< ((mI M x0 1) &&& 31)))]) (st := []) (v := some (vI r4)) (M1 := M4) X (m_J8_newLength_cabcc l hq4) (va_cwS 3 X.2.2.1 gJ5_newCapacity_0f7a4_J8_newLength_cabcc rfl rfl rfl (by decide +kernel) ⟨Nat.le_of_ble_eq_true rfl, Nat.le_of_ble_eq_true rfl⟩) rfl rfl (Nat.le_of_ble_eq_true rfl) dJ5_newCapacity_0f7a4_29 ⟨by decide, by decide⟩ ?_
  refine g_istore (lv' := [(5, vI r4), (4, vI ((x1 <<< ((mI M x0 1) &&& 31)) - (Int32.ofNat (mL M a2)))), (3, vI (x1 <<< ((mI M x0 1) &&& 31))), (2, vI (Int32.ofNat (mL M a2))), (0, vR (some x0)), (1, vI x1)]) X dJ5_newCapacity_0f7a4_32 (by decide) rfl ?_
  refine g_iload X dJ5_newCapacity_0f7a4_34 rfl ?_
  refine g_ldc (v := (2147483647 : Int32)) X k_J5_newCapacity_0f7a4_c39 dJ5_newCapacity_0f7a4_36 ?_
  refine g_icmp_ne (tgt := 51) X dJ5_newCapacity_0f7a4_38 (by decide) (fun hc => ?_) (fun hc => ?_)
  · have hf := ife_f hc hf
    refine g_iload X dJ5_newCapacity_0f7a4_51 rfl ?_
    refine g_aload_n X dJ5_newCapacity_0f7a4_53 rfl rfl ?_
    obtain ⟨hT5, hf⟩ := ck_e hf
    refine g_get (ci := 12) (v := vI (mI M4 x0 1)) 1 X cdJ4 i_J5_newCapacity_0f7a4_J4 (by decide) k_J5_newCapacity_0f7a4_f22 rfl dJ5_newCapacity_0f7a4_54 rfl hT5 rfl ?_
    refine g_ishr X dJ5_newCapacity_0f7a4_57 ?_
    cases hf
    refine g_eqQ hK ?_
    exact g_iret X hr dJ5_newCapacity_0f7a4_58
  · have hf := ife_t hc hf
    cases hf
set_option maxHeartbeats 4000000 in
set_option maxRecDepth 100000 in
theorem m_J5_newCapacity_0f7a4 (l : Launch) {D : va_G} {cy : Nat → ClassId} {B : Nat} {H0 : Heap} {Z : Nat → Nat} {M M1 : gMem} {x0 : Nat} {x1 : Int32} {r : Int32} (hf : f_J5_newCapacity_0f7a4 M x0 x1 = some (r, M1)) : Met l yJ5_newCapacity_0f7a4 wsJ5_newCapacity_0f7a4 rJ5_newCapacity_0f7a4 (va_Pc (Value.ref x0 :: List.map gv [vI x1]) (gPre D cy B H0 (gSt Z B H0) M)) (gQ D cy B H0 (some (vI r)) M1) 0 0 (gA B) := by
  refine Met.ofW (cc := cJ5_newCapacity_0f7a4) (maxL := 6) (ret := (some .int)) (by decide) rfl ?_
  intro p e s m args below meth c s₁ Bd hml hv
  obtain ⟨rfl, hW, hKK, hFs⟩ := hv
  have X : gX p s m _ meth c D cy B (gSt Z B H0) RJ5 cJ5_newCapacity_0f7a4 wsJ5_newCapacity_0f7a4 6 := ⟨Bd.exec, Bd.bytes, atoms_spec (ws := wsJ5_newCapacity_0f7a4) Bd.pre, findClass_of_methodNamed Bd.named, hml, hKK, by rw [hW.1]; exact hW.2.1, Bd.notSynchronized, hFs⟩
  have hr := Bd.returns
  have hl := lv_entry ([.ref x0, .int x1]) (n := 6) (Nat.le_of_ble_eq_true rfl)
  show W p l e rJ5_newCapacity_0f7a4 s m _ below meth c s.heap [] 0 0 _ (entryFrame m ([.ref x0, .int x1] : List Value).toArray 6)
  rw [lg_entry_eq]
  generalize (lg_sl ([.ref x0, .int x1]) ++ List.replicate (6 - (lg_sl ([.ref x0, .int x1])).length) Slot.unset).toArray = ls at hl ⊢
  have hl : lv_has ls 6 (List.map gq [(0, vR (some x0)), (1, vI x1)]) := hl
  exact t_J5_newCapacity_0f7a4_0 X hr _ _ _ _ hf rfl s.heap [] ls hW va_S.rf (lv_has_sub hl (lvsub_of _ _ [0, 1] rfl))
/-! ## java/util/Arrays.copyOf([BI)[B -/
theorem dJ7_copyOf_9075b_0 : decode cJ7_copyOf_9075b 0 = .ok (.iload_n 1, 1) := by decide +kernel
theorem dJ7_copyOf_9075b_1 : decode cJ7_copyOf_9075b 1 = .ok (.aload_n 0, 1) := by decide +kernel
theorem dJ7_copyOf_9075b_2 : decode cJ7_copyOf_9075b 2 = .ok (.arraylength, 1) := by decide +kernel
theorem dJ7_copyOf_9075b_3 : decode cJ7_copyOf_9075b 3 = .ok (.if_icmp .ne 11, 3) := by decide +kernel
theorem dJ7_copyOf_9075b_6 : decode cJ7_copyOf_9075b 6 = .ok (.aload_n 0, 1) := by decide +kernel
theorem dJ7_copyOf_9075b_7 : decode cJ7_copyOf_9075b 7 = .ok (.invokevirtual 310, 3) := by decide +kernel
theorem dJ7_copyOf_9075b_10 : decode cJ7_copyOf_9075b 10 = .ok (.checkcast 311, 3) := by decide +kernel
theorem dJ7_copyOf_9075b_13 : decode cJ7_copyOf_9075b 13 = .ok (.areturn, 1) := by decide +kernel
theorem dJ7_copyOf_9075b_14 : decode cJ7_copyOf_9075b 14 = .ok (.iload_n 1, 1) := by decide +kernel
theorem dJ7_copyOf_9075b_15 : decode cJ7_copyOf_9075b 15 = .ok (.newarray .byte, 2) := by decide +kernel
theorem dJ7_copyOf_9075b_17 : decode cJ7_copyOf_9075b 17 = .ok (.astore_n 2, 1) := by decide +kernel
theorem dJ7_copyOf_9075b_18 : decode cJ7_copyOf_9075b 18 = .ok (.aload_n 0, 1) := by decide +kernel
theorem dJ7_copyOf_9075b_19 : decode cJ7_copyOf_9075b 19 = .ok (.iconst 0, 1) := by decide +kernel
theorem dJ7_copyOf_9075b_20 : decode cJ7_copyOf_9075b 20 = .ok (.aload_n 2, 1) := by decide +kernel
theorem dJ7_copyOf_9075b_21 : decode cJ7_copyOf_9075b 21 = .ok (.iconst 0, 1) := by decide +kernel
theorem dJ7_copyOf_9075b_22 : decode cJ7_copyOf_9075b 22 = .ok (.aload_n 0, 1) := by decide +kernel
theorem dJ7_copyOf_9075b_23 : decode cJ7_copyOf_9075b 23 = .ok (.arraylength, 1) := by decide +kernel
theorem dJ7_copyOf_9075b_24 : decode cJ7_copyOf_9075b 24 = .ok (.iload_n 1, 1) := by decide +kernel
theorem dJ7_copyOf_9075b_25 : decode cJ7_copyOf_9075b 25 = .ok (.invokestatic 304, 3) := by decide +kernel
theorem dJ7_copyOf_9075b_28 : decode cJ7_copyOf_9075b 28 = .ok (.invokestatic 150, 3) := by decide +kernel
theorem dJ7_copyOf_9075b_31 : decode cJ7_copyOf_9075b 31 = .ok (.aload_n 2, 1) := by decide +kernel
theorem dJ7_copyOf_9075b_32 : decode cJ7_copyOf_9075b 32 = .ok (.areturn, 1) := by decide +kernel
theorem k_J7_copyOf_9075b_acbyte : Cond.arrayClass .byte ∈ wsJ7_copyOf_9075b := by decide +kernel
theorem k_J7_copyOf_9075b_m304 : Cond.methodLink RJ7 304 Lib.Math.min.name ∈ wsJ7_copyOf_9075b := by decide +kernel
theorem k_J7_copyOf_9075b_mmins : Cond.static Lib.Math.min.name ∈ wsJ7_copyOf_9075b := by decide +kernel
theorem k_J7_copyOf_9075b_mi : Cond.initialized "java/lang/Math" ∈ wsJ7_copyOf_9075b := by decide +kernel
theorem k_J7_copyOf_9075b_mminc : Cond.code Lib.Math.min.name Lib.Math.min.code 2 (some .int) ∈ wsJ7_copyOf_9075b := by decide +kernel
theorem k_J7_copyOf_9075b_ac150 : Cond.methodLink RJ7 150 arraycopyName ∈ wsJ7_copyOf_9075b := by decide +kernel
theorem k_J7_copyOf_9075b_acn : Cond.native arraycopyName ∈ wsJ7_copyOf_9075b := by decide +kernel
theorem k_J7_copyOf_9075b_acs : Cond.static arraycopyName ∈ wsJ7_copyOf_9075b := by decide +kernel
theorem k_J7_copyOf_9075b_aci : Cond.initialized "java/lang/System" ∈ wsJ7_copyOf_9075b := by decide +kernel
theorem k_J7_copyOf_9075b_cn1 : Cond.methodLink RJ7 310 ⟨"[B", "clone", "()Ljava/lang/Object;"⟩ ∈ wsJ7_copyOf_9075b := by decide +kernel
theorem k_J7_copyOf_9075b_cn2 : Cond.sameMethod "[B" "java/lang/Object" "clone" "()Ljava/lang/Object;" ∈ wsJ7_copyOf_9075b := by decide +kernel
theorem k_J7_copyOf_9075b_cn3 : Cond.native ⟨"java/lang/Object", "clone", "()Ljava/lang/Object;"⟩ ∈ wsJ7_copyOf_9075b := by decide +kernel
theorem k_J7_copyOf_9075b_cn4 : Cond.instanceMethod ⟨"java/lang/Object", "clone", "()Ljava/lang/Object;"⟩ ∈ wsJ7_copyOf_9075b := by decide +kernel
theorem k_J7_copyOf_9075b_cn5 : Cond.selects "[B" ⟨"[B", "clone", "()Ljava/lang/Object;"⟩ ⟨"java/lang/Object", "clone", "()Ljava/lang/Object;"⟩ ∈ wsJ7_copyOf_9075b := by decide +kernel
theorem k_J7_copyOf_9075b_cl311 : Cond.classLink RJ7 311 "[B" ∈ wsJ7_copyOf_9075b := by decide +kernel
abbrev rJ7_copyOf_9075b : Room := { frames := 1, cells := 1, slots := 2400, locals := 60 }
noncomputable def b_J7_copyOf_9075b_0 (Z : Nat → Nat) (M : gMem) (x0 : Option Nat) (x1 : Int32) : Option (Option Nat × gMem) :=
  dr x0 fun a1 => ck (mT M a1 = 22) <| (if x1 = (Int32.ofNat (mL M a1)) then ck (mL M a1 ≤ 2400) <| ck (∀ i, i < mL M a1 → i2bV (mI M a1 i) = mI M a1 i) <| lw (clM M a1) fun M17 => ck (mT M17 (mN M) = 22) <| some ((some (mN M)), M17) else ck (¬ x1 < 0) <| ck (x1.toNatClampNeg ≤ 2400) <| lw (nW M 22 x1.toNatClampNeg) fun M5 => ck (mT M5 a1 = 22) <| ck (mT M5 (mN M) = 22) <| ck (¬ (imin ((Int32.ofNat (mL M5 a1))) x1) < 0) <| ck (((0 : Int32)).toNatClampNeg + ((imin ((Int32.ofNat (mL M5 a1))) x1)).toNatClampNeg ≤ mL M5 a1) <| ck (((0 : Int32)).toNatClampNeg + ((imin ((Int32.ofNat (mL M5 a1))) x1)).toNatClampNeg ≤ mL M5 (mN M)) <| ck (∀ i, i < ((imin ((Int32.ofNat (mL M5 a1))) x1)).toNatClampNeg → i2bV (mI M5 a1 (((0 : Int32)).toNatClampNeg + i)) = mI M5 a1 (((0 : Int32)).toNatClampNeg + i)) <| lw (cpI M5 a1 ((0 : Int32)).toNatClampNeg (mN M) ((0 : Int32)).toNatClampNeg ((imin ((Int32.ofNat (mL M5 a1))) x1)).toNatClampNeg) fun M12 => some ((some (mN M)), M12))
noncomputable def f_J7_copyOf_9075b (Z : Nat → Nat) (M : gMem) (x0 : Option Nat) (x1 : Int32) : Option (Option Nat × gMem) :=
  b_J7_copyOf_9075b_0 Z M x0 x1
set_option maxHeartbeats 4000000 in
set_option maxRecDepth 100000 in
theorem t_J7_copyOf_9075b_0 (X2 : gX p s m args meth c D cy B (gSt2 Z B H0) RJ7 cJ7_copyOf_9075b wsJ7_copyOf_9075b 3) (hr : meth.sig.returnType = (some (.array .byte))) {Q : State → Prop} : ∀ (M : gMem) (x0 : Option Nat) (x1 : Int32) (z : Option Nat × gMem), b_J7_copyOf_9075b_0 Z M x0 x1 = some z → (fun (r : Option Nat × gMem) => Q = gMQ below D cy B H0 args s 1 2400 (some (vR r.1)) r.2) z → gGo p l e rJ7_copyOf_9075b s m args below meth c D cy B H0 3 0 0 Q 0 [(0, vR x0), (1, vI x1)] [] M := by
  intro M x0 x1 z hf hK
  unfold b_J7_copyOf_9075b_0 at hf
  have X := gX_w X2
  refine g_iload_n X dJ7_copyOf_9075b_0 rfl rfl ?_
  refine g_aload_n X dJ7_copyOf_9075b_1 rfl rfl ?_
  obtain ⟨a1, ha1, hf⟩ := dr_e hf
  obtain ⟨hT2, hf⟩ := ck_e hf
  refine g_alen (t0 := 2) X dJ7_copyOf_9075b_2 ha1 hT2 (by decide) rfl ?_
  refine g_icmp_ne (tgt := 14) X dJ7_copyOf_9075b_3 (by decide) (fun hc => ?_) (fun hc => ?_)
  · have hf := ife_f hc hf
    refine g_iload_n X dJ7_copyOf_9075b_14 rfl rfl ?_
    obtain ⟨hg3, hf⟩ := ck_e hf
    obtain ⟨hg4, hf⟩ := ck_e hf
    refine g_newa (at' := .byte) (t0 := 0) X k_J7_copyOf_9075b_acbyte (by exact Or.inr (Or.inr (Or.inl ⟨rfl, rfl⟩))) hg3 (by omega) ⟨(by decide), Nat.le_trans (Nat.add_le_add_left hg4 _) (by decide)⟩ dJ7_copyOf_9075b_15 ?_
    refine g_wide (k' := 1) (n' := 2400) (Nat.le_refl _) (Nat.add_le_add_left hg4 _) ?_
    obtain ⟨M5, hM5, hf⟩ := lw_e hf
    rw [← hM5]
    refine g_astore_n (lv' := [(2, vR (some (mN M))), (0, vR x0), (1, vI x1)]) X dJ7_copyOf_9075b_17 rfl (by decide) rfl ?_
    refine g_aload_n X dJ7_copyOf_9075b_18 rfl rfl ?_
    refine g_iconst (v := (0 : Int32)) X dJ7_copyOf_9075b_19 (by decide) ?_
    refine g_aload_n X dJ7_copyOf_9075b_20 rfl rfl ?_
    refine g_iconst (v := (0 : Int32)) X dJ7_copyOf_9075b_21 (by decide) ?_
    refine g_aload_n X dJ7_copyOf_9075b_22 rfl rfl ?_
    obtain ⟨hT6, hf⟩ := ck_e hf
    refine g_alen (t0 := 2) X dJ7_copyOf_9075b_23 ha1 hT6 (by decide) rfl ?_
    refine g_iload_n X dJ7_copyOf_9075b_24 rfl rfl ?_
    refine g_min X k_J7_copyOf_9075b_m304 k_J7_copyOf_9075b_mmins k_J7_copyOf_9075b_mi k_J7_copyOf_9075b_mminc (Nat.le_of_ble_eq_true rfl) (Nat.le_of_ble_eq_true rfl) ⟨by decide, by decide⟩ dJ7_copyOf_9075b_25 ?_
    obtain ⟨hT7, hf⟩ := ck_e hf
    obtain ⟨hg8, hf⟩ := ck_e hf
    obtain ⟨hg9, hf⟩ := ck_e hf
    obtain ⟨hg10, hf⟩ := ck_e hf
    obtain ⟨hg11, hf⟩ := ck_e hf
    refine g_copyB X k_J7_copyOf_9075b_ac150 k_J7_copyOf_9075b_acn k_J7_copyOf_9075b_acs k_J7_copyOf_9075b_aci ha1 rfl hT6 hT7 (by decide) (by decide) hg8 hg9 hg10 hg11 (Nat.le_of_ble_eq_true rfl) (Nat.le_of_ble_eq_true rfl) dJ7_copyOf_9075b_28 ?_
    obtain ⟨M12, hM12, hf⟩ := lw_e hf
    rw [← hM12]
    have hT13 : mT M12 a1 = 22 := by rw [hM12]; exact hT6
    have hT14 : mT M12 (mN M) = 22 := by rw [hM12]; exact hT7
    refine g_aload_n X dJ7_copyOf_9075b_31 rfl rfl ?_
    cases hf
    refine g_eqQ hK ?_
    exact g_aret X hr (Or.inr ⟨_, rfl⟩) dJ7_copyOf_9075b_32
  · have hf := ife_t hc hf
    refine g_aload_n X dJ7_copyOf_9075b_6 rfl rfl ?_
    obtain ⟨hg15, hf⟩ := ck_e hf
    obtain ⟨hg16, hf⟩ := ck_e hf
    refine g_clone X k_J7_copyOf_9075b_cn1 k_J7_copyOf_9075b_cn2 k_J7_copyOf_9075b_cn3 k_J7_copyOf_9075b_cn4 k_J7_copyOf_9075b_cn5 (gN2w X2 _ (by decide +kernel)) ha1 hT2 hg16 (Nat.le_of_ble_eq_true rfl) (Nat.le_of_ble_eq_true rfl) ⟨(by decide), Nat.le_trans (Nat.add_le_add_left hg15 _) (by decide)⟩ dJ7_copyOf_9075b_7 ?_
    refine g_wide (k' := 1) (n' := 2400) (Nat.le_refl _) (Nat.add_le_add_left hg15 _) ?_
    obtain ⟨M17, hM17, hf⟩ := lw_e hf
    rw [← hM17]
    obtain ⟨hT18, hf⟩ := ck_e hf
    refine g_castB X k_J7_copyOf_9075b_cl311 dJ7_copyOf_9075b_10 rfl hT18 ?_
    cases hf
    refine g_eqQ hK ?_
    exact g_aret X hr (Or.inr ⟨_, rfl⟩) dJ7_copyOf_9075b_13
set_option maxHeartbeats 4000000 in
set_option maxRecDepth 100000 in
theorem m_J7_copyOf_9075b (l : Launch) {D : va_G} {cy : Nat → ClassId} {B : Nat} {H0 : Heap} {Z : Nat → Nat} {M M1 : gMem} {x0 : Option Nat} {x1 : Int32} {r : Option Nat} (hf : f_J7_copyOf_9075b Z M x0 x1 = some (r, M1)) : Met l yJ7_copyOf_9075b wsJ7_copyOf_9075b rJ7_copyOf_9075b (va_Pc (List.map gv [vR x0, vI x1]) (gPre D cy B H0 (gSt2 Z B H0) M)) (gQ D cy B H0 (some (vR r)) M1) 1 2400 (gA B) := by
  refine Met.ofW (cc := cJ7_copyOf_9075b) (maxL := 3) (ret := (some (.array .byte))) (by decide) rfl ?_
  intro p e s m args below meth c s₁ Bd hml hv
  obtain ⟨rfl, hW, hKK, hFs⟩ := hv
  have X2 : gX p s m _ meth c D cy B (gSt2 Z B H0) RJ7 cJ7_copyOf_9075b wsJ7_copyOf_9075b 3 := ⟨Bd.exec, Bd.bytes, atoms_spec (ws := wsJ7_copyOf_9075b) Bd.pre, findClass_of_methodNamed Bd.named, hml, hKK, by rw [hW.1]; exact hW.2.1, Bd.notSynchronized, hFs⟩
  have hr := Bd.returns
  rcases x0 with _ | x0
  · have hl := lv_entry ([.null, .int x1]) (n := 3) (Nat.le_of_ble_eq_true rfl)
    show W p l e rJ7_copyOf_9075b s m _ below meth c s.heap [] 0 0 _ (entryFrame m ([.null, .int x1] : List Value).toArray 3)
    rw [lg_entry_eq]
    generalize (lg_sl ([.null, .int x1]) ++ List.replicate (3 - (lg_sl ([.null, .int x1])).length) Slot.unset).toArray = ls at hl ⊢
    have hl : lv_has ls 3 (List.map gq [(0, vR none), (1, vI x1)]) := hl
    exact t_J7_copyOf_9075b_0 X2 hr _ _ _ _ hf rfl s.heap [] ls hW va_S.rf (lv_has_sub hl (lvsub_of _ _ [0, 1] rfl))
  · have hl := lv_entry ([.ref x0, .int x1]) (n := 3) (Nat.le_of_ble_eq_true rfl)
    show W p l e rJ7_copyOf_9075b s m _ below meth c s.heap [] 0 0 _ (entryFrame m ([.ref x0, .int x1] : List Value).toArray 3)
    rw [lg_entry_eq]
    generalize (lg_sl ([.ref x0, .int x1]) ++ List.replicate (3 - (lg_sl ([.ref x0, .int x1])).length) Slot.unset).toArray = ls at hl ⊢
    have hl : lv_has ls 3 (List.map gq [(0, vR (some x0)), (1, vI x1)]) := hl
    exact t_J7_copyOf_9075b_0 X2 hr _ _ _ _ hf rfl s.heap [] ls hW va_S.rf (lv_has_sub hl (lvsub_of _ _ [0, 1] rfl))
end
