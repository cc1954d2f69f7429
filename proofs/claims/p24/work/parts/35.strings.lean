section
variable {p : Program} {l : Launch} {e : Env} {s : State} {m : MethodId} {args : Array Value} {below : List Frame} {meth : Method} {c : Code} {D : va_G} {cy : Nat → ClassId} {B : Nat} {H0 : Heap} {Z : Nat → Nat}
/-! ## java/lang/String.coder()B -/
theorem k_J0_coder_7d493_r_f38 : Cond.fieldLink RJ0 38 "java/lang/String" "COMPACT_STRINGS" "Z" ∈ wsJ0_coder_7d493 := by decide +kernel
theorem k_J0_coder_7d493_r_f15 : Cond.fieldLink RJ0 15 "java/lang/String" "coder" "B" ∈ wsJ0_coder_7d493 := by decide +kernel
theorem i_J0_coder_7d493_r_J0 : ∀ w ∈ u_ws RJ0 TJ0 4, w ∈ wsJ0_coder_7d493 := by decide +kernel
abbrev rJ0_coder_7d493_r : Room := { frames := 0, cells := 0, slots := 0, locals := 0 }
noncomputable def b_J0_coder_7d493_r_0 (Z : Nat → Nat) (M : gMem) (x0 : Nat) : Option (Int32 × gMem) :=
  ck (mT M x0 = 12) <| ck (i2bV ((mI M x0 1)) = (mI M x0 1)) <| some ((mI M x0 1), M)
noncomputable def f_J0_coder_7d493_r (Z : Nat → Nat) (M : gMem) (x0 : Nat) : Option (Int32 × gMem) :=
  b_J0_coder_7d493_r_0 Z M x0
set_option maxHeartbeats 4000000 in
set_option maxRecDepth 100000 in
theorem t_J0_coder_7d493_r_0 (X : gX p s m args meth c D cy B (gSt Z B H0) RJ0 cJ0_coder_7d493 wsJ0_coder_7d493 1) (hr : meth.sig.returnType = (some .byte)) {Q : State → Prop} : ∀ (M : gMem) (x0 : Nat) (z : Int32 × gMem), b_J0_coder_7d493_r_0 Z M x0 = some z → (fun (r : Int32 × gMem) => Q = gMQ below D cy B H0 args s 0 0 (some (vI r.1)) r.2) z → gGo p l e rJ0_coder_7d493_r s m args below meth c D cy B H0 1 0 0 Q 0 [(0, vR (some x0))] [] M := by
  intro M x0 z hf hK
  unfold b_J0_coder_7d493_r_0 at hf
  refine g_gets (w := vI 1) X (gSt_CS X) k_J0_coder_7d493_r_f38 rfl dJ0_coder_7d493_0 ?_
  refine g_if_eq (tgt := 13) X dJ0_coder_7d493_3 (by decide) (fun hc => absurd hc (by decide)) (fun _ => ?_)
  refine g_aload_n X dJ0_coder_7d493_6 rfl rfl ?_
  obtain ⟨hT1, hf⟩ := ck_e hf
  refine g_get (ci := 11) (v := vI (mI M x0 1)) 1 X cdJ0 i_J0_coder_7d493_r_J0 (by decide) k_J0_coder_7d493_r_f15 rfl dJ0_coder_7d493_7 rfl hT1 rfl ?_
  refine g_goto (tgt := 14) X dJ0_coder_7d493_10 (by decide) ?_
  obtain ⟨hg2, hf⟩ := ck_e hf
  cases hf
  refine g_eqQ hK ?_
  exact g_zret X hr (gny hg2) dJ0_coder_7d493_14
set_option maxHeartbeats 4000000 in
set_option maxRecDepth 100000 in
theorem m_J0_coder_7d493_r (l : Launch) {D : va_G} {cy : Nat → ClassId} {B : Nat} {H0 : Heap} {Z : Nat → Nat} {M M1 : gMem} {x0 : Nat} {r : Int32} (hf : f_J0_coder_7d493_r Z M x0 = some (r, M1)) : Met l yJ0_coder_7d493 wsJ0_coder_7d493 rJ0_coder_7d493_r (va_Pc (Value.ref x0 :: List.map gv []) (gPre D cy B H0 (gSt Z B H0) M)) (gQ D cy B H0 (some (vI r)) M1) 0 0 (gA B) := by
  refine Met.ofW (cc := cJ0_coder_7d493) (maxL := 1) (ret := (some .byte)) (by decide) rfl ?_
  intro p e s m args below meth c s₁ Bd hml hv
  obtain ⟨rfl, hW, hKK, hFs⟩ := hv
  have X : gX p s m _ meth c D cy B (gSt Z B H0) RJ0 cJ0_coder_7d493 wsJ0_coder_7d493 1 := ⟨Bd.exec, Bd.bytes, atoms_spec (ws := wsJ0_coder_7d493) Bd.pre, findClass_of_methodNamed Bd.named, hml, hKK, by rw [hW.1]; exact hW.2.1, Bd.notSynchronized, hFs⟩
  have hr := Bd.returns
  have hl := lv_entry ([.ref x0]) (n := 1) (Nat.le_of_ble_eq_true rfl)
  show W p l e rJ0_coder_7d493_r s m _ below meth c s.heap [] 0 0 _ (entryFrame m ([.ref x0] : List Value).toArray 1)
  rw [lg_entry_eq]
  generalize (lg_sl ([.ref x0]) ++ List.replicate (1 - (lg_sl ([.ref x0])).length) Slot.unset).toArray = ls at hl ⊢
  have hl : lv_has ls 1 (List.map gq [(0, vR (some x0))]) := hl
  exact t_J0_coder_7d493_r_0 X hr _ _ _ hf rfl s.heap [] ls hW va_S.rf (lv_has_sub hl (lvsub_of _ _ [0] rfl))
/-! ## java/lang/String.length()I -/
theorem k_J0_length_8abf5_r_f9 : Cond.fieldLink RJ0 9 "java/lang/String" "value" "[B" ∈ wsJ0_length_8abf5 := by decide +kernel
theorem i_J0_length_8abf5_r_J0 : ∀ w ∈ u_ws RJ0 TJ0 4, w ∈ wsJ0_length_8abf5 := by decide +kernel
abbrev rJ0_length_8abf5_r : Room := { frames := 1, cells := 0, slots := 0, locals := 20 }
noncomputable def b_J0_length_8abf5_r_0 (Z : Nat → Nat) (M : gMem) (x0 : Nat) : Option (Int32 × gMem) :=
  ck (mT M x0 = 12) <| dr ((mR M x0 0)) fun a2 => ck (mT M a2 = 22) <| bd (f_J0_coder_7d493_r Z M x0) fun r4 M4 => some (((Int32.ofNat (mL M a2)) >>> (r4 &&& 31)), M4)
noncomputable def f_J0_length_8abf5_r (Z : Nat → Nat) (M : gMem) (x0 : Nat) : Option (Int32 × gMem) :=
  b_J0_length_8abf5_r_0 Z M x0
set_option maxHeartbeats 4000000 in
set_option maxRecDepth 100000 in
theorem t_J0_length_8abf5_r_0 (X : gX p s m args meth c D cy B (gSt Z B H0) RJ0 cJ0_length_8abf5 wsJ0_length_8abf5 1) (hr : meth.sig.returnType = (some .int)) {Q : State → Prop} : ∀ (M : gMem) (x0 : Nat) (z : Int32 × gMem), b_J0_length_8abf5_r_0 Z M x0 = some z → (fun (r : Int32 × gMem) => Q = gMQ below D cy B H0 args s 0 0 (some (vI r.1)) r.2) z → gGo p l e rJ0_length_8abf5_r s m args below meth c D cy B H0 1 0 0 Q 0 [(0, vR (some x0))] [] M := by
  intro M x0 z hf hK
  unfold b_J0_length_8abf5_r_0 at hf
  refine g_aload_n X dJ0_length_8abf5_0 rfl rfl ?_
  obtain ⟨hT1, hf⟩ := ck_e hf
  refine g_get (ci := 11) (v := vR (mR M x0 0)) 0 X cdJ0 i_J0_length_8abf5_r_J0 (by decide) k_J0_length_8abf5_r_f9 rfl dJ0_length_8abf5_1 rfl hT1 rfl ?_
  obtain ⟨a2, ha2, hf⟩ := dr_e hf
  obtain ⟨hT3, hf⟩ := ck_e hf
  refine g_alen (t0 := 2) X dJ0_length_8abf5_4 ha2 hT3 (by decide) rfl ?_
  refine g_aload_n X dJ0_length_8abf5_5 rfl rfl ?_
  obtain ⟨r4, M4, hq4, hf⟩ := bd_e hf
  refine g_callV (ci := 11) (b := x0) (As := []) (st := [vI (Int32.ofNat (mL M a2))]) (v := some (vI r4)) (M1 := M4) X (m_J0_coder_7d493_r l hq4) (cwV 0 X.2.2.1 gJ0_length_8abf5_J0_coder_7d493 rfl rfl rfl (by decide +kernel) ⟨Nat.le_of_ble_eq_true rfl, Nat.le_of_ble_eq_true rfl⟩) rfl rfl rfl hT1 (by decide) rfl (Nat.le_of_ble_eq_true rfl) dJ0_length_8abf5_6 ⟨by decide, by decide⟩ ?_
  refine g_ishr X dJ0_length_8abf5_9 ?_
  cases hf
  refine g_eqQ hK ?_
  exact g_iret X hr dJ0_length_8abf5_10
set_option maxHeartbeats 4000000 in
set_option maxRecDepth 100000 in
theorem m_J0_length_8abf5_r (l : Launch) {D : va_G} {cy : Nat → ClassId} {B : Nat} {H0 : Heap} {Z : Nat → Nat} {M M1 : gMem} {x0 : Nat} {r : Int32} (hf : f_J0_length_8abf5_r Z M x0 = some (r, M1)) : Met l yJ0_length_8abf5 wsJ0_length_8abf5 rJ0_length_8abf5_r (va_Pc (Value.ref x0 :: List.map gv []) (gPre D cy B H0 (gSt Z B H0) M)) (gQ D cy B H0 (some (vI r)) M1) 0 0 (gA B) := by
  refine Met.ofW (cc := cJ0_length_8abf5) (maxL := 1) (ret := (some .int)) (by decide) rfl ?_
  intro p e s m args below meth c s₁ Bd hml hv
  obtain ⟨rfl, hW, hKK, hFs⟩ := hv
  have X : gX p s m _ meth c D cy B (gSt Z B H0) RJ0 cJ0_length_8abf5 wsJ0_length_8abf5 1 := ⟨Bd.exec, Bd.bytes, atoms_spec (ws := wsJ0_length_8abf5) Bd.pre, findClass_of_methodNamed Bd.named, hml, hKK, by rw [hW.1]; exact hW.2.1, Bd.notSynchronized, hFs⟩
  have hr := Bd.returns
  have hl := lv_entry ([.ref x0]) (n := 1) (Nat.le_of_ble_eq_true rfl)
  show W p l e rJ0_length_8abf5_r s m _ below meth c s.heap [] 0 0 _ (entryFrame m ([.ref x0] : List Value).toArray 1)
  rw [lg_entry_eq]
  generalize (lg_sl ([.ref x0]) ++ List.replicate (1 - (lg_sl ([.ref x0])).length) Slot.unset).toArray = ls at hl ⊢
  have hl : lv_has ls 1 (List.map gq [(0, vR (some x0))]) := hl
  exact t_J0_length_8abf5_r_0 X hr _ _ _ hf rfl s.heap [] ls hW va_S.rf (lv_has_sub hl (lvsub_of _ _ [0] rfl))
/-! ## java/lang/String.isLatin1()Z -/
theorem k_J0_isLatin1_aae02_r_f38 : Cond.fieldLink RJ0 38 "java/lang/String" "COMPACT_STRINGS" "Z" ∈ wsJ0_isLatin1_aae02 := by decide +kernel
theorem k_J0_isLatin1_aae02_r_f15 : Cond.fieldLink RJ0 15 "java/lang/String" "coder" "B" ∈ wsJ0_isLatin1_aae02 := by decide +kernel
theorem i_J0_isLatin1_aae02_r_J0 : ∀ w ∈ u_ws RJ0 TJ0 4, w ∈ wsJ0_isLatin1_aae02 := by decide +kernel
abbrev rJ0_isLatin1_aae02_r : Room := { frames := 0, cells := 0, slots := 0, locals := 0 }
noncomputable def b_J0_isLatin1_aae02_r_18 (Z : Nat → Nat) (M : gMem) (s0 : Int32) : Option (Int32 × gMem) :=
  ck (s0 = 0 ∨ s0 = 1) <| some (s0, M)
noncomputable def b_J0_isLatin1_aae02_r_17 (Z : Nat → Nat) (M : gMem)  : Option (Int32 × gMem) :=
  b_J0_isLatin1_aae02_r_18 Z M ((0 : Int32))
noncomputable def b_J0_isLatin1_aae02_r_0 (Z : Nat → Nat) (M : gMem) (x0 : Nat) : Option (Int32 × gMem) :=
  ck (mT M x0 = 12) <| (if (mI M x0 1) = 0 then b_J0_isLatin1_aae02_r_18 Z M ((1 : Int32)) else b_J0_isLatin1_aae02_r_17 Z M )
noncomputable def f_J0_isLatin1_aae02_r (Z : Nat → Nat) (M : gMem) (x0 : Nat) : Option (Int32 × gMem) :=
  b_J0_isLatin1_aae02_r_0 Z M x0
set_option maxHeartbeats 4000000 in
set_option maxRecDepth 100000 in
theorem t_J0_isLatin1_aae02_r_18 (X : gX p s m args meth c D cy B (gSt Z B H0) RJ0 cJ0_isLatin1_aae02 wsJ0_isLatin1_aae02 1) (hr : meth.sig.returnType = (some .boolean)) {Q : State → Prop} : ∀ (M : gMem) (s0 : Int32) (z : Int32 × gMem), b_J0_isLatin1_aae02_r_18 Z M s0 = some z → (fun (r : Int32 × gMem) => Q = gMQ below D cy B H0 args s 0 0 (some (vI r.1)) r.2) z → gGo p l e rJ0_isLatin1_aae02_r s m args below meth c D cy B H0 1 0 0 Q 18 [] [vI s0] M := by
  intro M s0 z hf hK
  unfold b_J0_isLatin1_aae02_r_18 at hf
  obtain ⟨hg1, hf⟩ := ck_e hf
  cases hf
  refine g_eqQ hK ?_
  exact g_zret X hr (gnb hg1) dJ0_isLatin1_aae02_18
set_option maxHeartbeats 4000000 in
set_option maxRecDepth 100000 in
theorem t_J0_isLatin1_aae02_r_17 (X : gX p s m args meth c D cy B (gSt Z B H0) RJ0 cJ0_isLatin1_aae02 wsJ0_isLatin1_aae02 1) (hr : meth.sig.returnType = (some .boolean)) {Q : State → Prop} : ∀ (M : gMem)  (z : Int32 × gMem), b_J0_isLatin1_aae02_r_17 Z M  = some z → (fun (r : Int32 × gMem) => Q = gMQ below D cy B H0 args s 0 0 (some (vI r.1)) r.2) z → gGo p l e rJ0_isLatin1_aae02_r s m args below meth c D cy B H0 1 0 0 Q 17 [] [] M := by
  intro M  z hf hK
  unfold b_J0_isLatin1_aae02_r_17 at hf
  refine g_iconst (v := (0 : Int32)) X dJ0_isLatin1_aae02_17 (by decide) ?_
  refine g_sub (lvsub_of _ _ [] rfl) ?_
  exact t_J0_isLatin1_aae02_r_18 X hr _ _ _ hf hK
set_option maxHeartbeats 4000000 in
set_option maxRecDepth 100000 in
theorem t_J0_isLatin1_aae02_r_0 (X : gX p s m args meth c D cy B (gSt Z B H0) RJ0 cJ0_isLatin1_aae02 wsJ0_isLatin1_aae02 1) (hr : meth.sig.returnType = (some .boolean)) {Q : State → Prop} : ∀ (M : gMem) (x0 : Nat) (z : Int32 × gMem), b_J0_isLatin1_aae02_r_0 Z M x0 = some z → (fun (r : Int32 × gMem) => Q = gMQ below D cy B H0 args s 0 0 (some (vI r.1)) r.2) z → gGo p l e rJ0_isLatin1_aae02_r s m args below meth c D cy B H0 1 0 0 Q 0 [(0, vR (some x0))] [] M := by
  intro M x0 z hf hK
  unfold b_J0_isLatin1_aae02_r_0 at hf
  refine g_gets (w := vI 1) X (gSt_CS X) k_J0_isLatin1_aae02_r_f38 rfl dJ0_isLatin1_aae02_0 ?_
  refine g_if_eq (tgt := 17) X dJ0_isLatin1_aae02_3 (by decide) (fun hc => absurd hc (by decide)) (fun _ => ?_)
  refine g_aload_n X dJ0_isLatin1_aae02_6 rfl rfl ?_
  obtain ⟨hT2, hf⟩ := ck_e hf
  refine g_get (ci := 11) (v := vI (mI M x0 1)) 1 X cdJ0 i_J0_isLatin1_aae02_r_J0 (by decide) k_J0_isLatin1_aae02_r_f15 rfl dJ0_isLatin1_aae02_7 rfl hT2 rfl ?_
  refine g_if_ne (tgt := 17) X dJ0_isLatin1_aae02_10 (by decide) (fun hc => ?_) (fun hc => ?_)
  · have hf := ife_f hc hf
    refine g_sub (lvsub_of _ _ [] rfl) ?_
    exact t_J0_isLatin1_aae02_r_17 X hr _  _ hf hK
  · have hf := ife_t hc hf
    refine g_iconst (v := (1 : Int32)) X dJ0_isLatin1_aae02_13 (by decide) ?_
    refine g_goto (tgt := 18) X dJ0_isLatin1_aae02_14 (by decide) ?_
    refine g_sub (lvsub_of _ _ [] rfl) ?_
    exact t_J0_isLatin1_aae02_r_18 X hr _ _ _ hf hK
set_option maxHeartbeats 4000000 in
set_option maxRecDepth 100000 in
theorem m_J0_isLatin1_aae02_r (l : Launch) {D : va_G} {cy : Nat → ClassId} {B : Nat} {H0 : Heap} {Z : Nat → Nat} {M M1 : gMem} {x0 : Nat} {r : Int32} (hf : f_J0_isLatin1_aae02_r Z M x0 = some (r, M1)) : Met l yJ0_isLatin1_aae02 wsJ0_isLatin1_aae02 rJ0_isLatin1_aae02_r (va_Pc (Value.ref x0 :: List.map gv []) (gPre D cy B H0 (gSt Z B H0) M)) (gQ D cy B H0 (some (vI r)) M1) 0 0 (gA B) := by
  refine Met.ofW (cc := cJ0_isLatin1_aae02) (maxL := 1) (ret := (some .boolean)) (by decide) rfl ?_
  intro p e s m args below meth c s₁ Bd hml hv
  obtain ⟨rfl, hW, hKK, hFs⟩ := hv
  have X : gX p s m _ meth c D cy B (gSt Z B H0) RJ0 cJ0_isLatin1_aae02 wsJ0_isLatin1_aae02 1 := ⟨Bd.exec, Bd.bytes, atoms_spec (ws := wsJ0_isLatin1_aae02) Bd.pre, findClass_of_methodNamed Bd.named, hml, hKK, by rw [hW.1]; exact hW.2.1, Bd.notSynchronized, hFs⟩
  have hr := Bd.returns
  have hl := lv_entry ([.ref x0]) (n := 1) (Nat.le_of_ble_eq_true rfl)
  show W p l e rJ0_isLatin1_aae02_r s m _ below meth c s.heap [] 0 0 _ (entryFrame m ([.ref x0] : List Value).toArray 1)
  rw [lg_entry_eq]
  generalize (lg_sl ([.ref x0]) ++ List.replicate (1 - (lg_sl ([.ref x0])).length) Slot.unset).toArray = ls at hl ⊢
  have hl : lv_has ls 1 (List.map gq [(0, vR (some x0))]) := hl
  exact t_J0_isLatin1_aae02_r_0 X hr _ _ _ hf rfl s.heap [] ls hW va_S.rf (lv_has_sub hl (lvsub_of _ _ [0] rfl))
/-! ## java/lang/StringLatin1.charAt([BI)C -/
abbrev rJ1_charAt_3b067_r : Room := { frames := 2, cells := 0, slots := 0, locals := 43 }
noncomputable def b_J1_charAt_3b067_r_0 (Z : Nat → Nat) (M : gMem) (x0 : Option Nat) (x1 : Int32) : Option (Int32 × gMem) :=
  dr x0 fun a1 => ck (mT M a1 = 22) <| bd (f_J0_checkIndex_df160 Z M x1 ((Int32.ofNat (mL M a1)))) fun _ M3 => ck (mT M3 a1 = 22) <| ck (inb x1 (mL M3 a1)) <| ck (i2cV ((i2cV (((mI M3 a1 x1.toNatClampNeg) &&& (255 : Int32))))) = (i2cV (((mI M3 a1 x1.toNatClampNeg) &&& (255 : Int32))))) <| some ((i2cV (((mI M3 a1 x1.toNatClampNeg) &&& (255 : Int32)))), M3)
noncomputable def f_J1_charAt_3b067_r (Z : Nat → Nat) (M : gMem) (x0 : Option Nat) (x1 : Int32) : Option (Int32 × gMem) :=
  b_J1_charAt_3b067_r_0 Z M x0 x1
set_option maxHeartbeats 4000000 in
set_option maxRecDepth 100000 in
theorem t_J1_charAt_3b067_r_0 (X : gX p s m args meth c D cy B (gSt Z B H0) RJ1 cJ1_charAt_3b067 wsJ1_charAt_3b067 2) (hr : meth.sig.returnType = (some .char)) {Q : State → Prop} : ∀ (M : gMem) (x0 : Option Nat) (x1 : Int32) (z : Int32 × gMem), b_J1_charAt_3b067_r_0 Z M x0 x1 = some z → (fun (r : Int32 × gMem) => Q = gMQ below D cy B H0 args s 0 0 (some (vI r.1)) r.2) z → gGo p l e rJ1_charAt_3b067_r s m args below meth c D cy B H0 2 0 0 Q 0 [(0, vR x0), (1, vI x1)] [] M := by
  intro M x0 x1 z hf hK
  unfold b_J1_charAt_3b067_r_0 at hf
  refine g_iload_n X dJ1_charAt_3b067_0 rfl rfl ?_
  refine g_aload_n X dJ1_charAt_3b067_1 rfl rfl ?_
  obtain ⟨a1, ha1, hf⟩ := dr_e hf
  obtain ⟨hT2, hf⟩ := ck_e hf
  refine g_alen (t0 := 2) X dJ1_charAt_3b067_2 ha1 hT2 (by decide) rfl ?_
  obtain ⟨r3, M3, hq3, hf⟩ := bd_e hf
  refine g_callS (As := [vI x1, vI (Int32.ofNat (mL M a1))]) (st := []) (v := none) (M1 := M3) X (m_J0_checkIndex_df160 l hq3) (va_cwS 2 X.2.2.1 gJ1_charAt_3b067_J0_checkIndex_df160 rfl rfl rfl (by decide +kernel) ⟨Nat.le_of_ble_eq_true rfl, Nat.le_of_ble_eq_true rfl⟩) rfl rfl (Nat.le_of_ble_eq_true rfl) dJ1_charAt_3b067_3 ⟨by decide, by decide⟩ ?_
  refine g_aload_n X dJ1_charAt_3b067_6 rfl rfl ?_
  refine g_iload_n X dJ1_charAt_3b067_7 rfl rfl ?_
  obtain ⟨hT4, hf⟩ := ck_e hf
  obtain ⟨hg5, hf⟩ := ck_e hf
  refine g_bald X dJ1_charAt_3b067_8 ha1 hT4 hg5 ?_
  refine g_sipush (v := (255 : Int32)) X dJ1_charAt_3b067_9 (by decide) ?_
  refine g_iand X dJ1_charAt_3b067_12 ?_
  refine g_i2c X dJ1_charAt_3b067_13 ?_
  obtain ⟨hg6, hf⟩ := ck_e hf
  cases hf
  refine g_eqQ hK ?_
  exact g_zret X hr (gnc hg6) dJ1_charAt_3b067_14
set_option maxHeartbeats 4000000 in
set_option maxRecDepth 100000 in
theorem m_J1_charAt_3b067_r (l : Launch) {D : va_G} {cy : Nat → ClassId} {B : Nat} {H0 : Heap} {Z : Nat → Nat} {M M1 : gMem} {x0 : Option Nat} {x1 : Int32} {r : Int32} (hf : f_J1_charAt_3b067_r Z M x0 x1 = some (r, M1)) : Met l yJ1_charAt_3b067 wsJ1_charAt_3b067 rJ1_charAt_3b067_r (va_Pc (List.map gv [vR x0, vI x1]) (gPre D cy B H0 (gSt Z B H0) M)) (gQ D cy B H0 (some (vI r)) M1) 0 0 (gA B) := by
  refine Met.ofW (cc := cJ1_charAt_3b067) (maxL := 2) (ret := (some .char)) (by decide) rfl ?_
  intro p e s m args below meth c s₁ Bd hml hv
  obtain ⟨rfl, hW, hKK, hFs⟩ := hv
  have X : gX p s m _ meth c D cy B (gSt Z B H0) RJ1 cJ1_charAt_3b067 wsJ1_charAt_3b067 2 := ⟨Bd.exec, Bd.bytes, atoms_spec (ws := wsJ1_charAt_3b067) Bd.pre, findClass_of_methodNamed Bd.named, hml, hKK, by rw [hW.1]; exact hW.2.1, Bd.notSynchronized, hFs⟩
  have hr := Bd.returns
  rcases x0 with _ | x0
  · have hl := lv_entry ([.null, .int x1]) (n := 2) (Nat.le_of_ble_eq_true rfl)
    show W p l e rJ1_charAt_3b067_r s m _ below meth c s.heap [] 0 0 _ (entryFrame m ([.null, .int x1] : List Value).toArray 2)
    rw [lg_entry_eq]
    generalize (lg_sl ([.null, .int x1]) ++ List.replicate (2 - (lg_sl ([.null, .int x1])).length) Slot.unset).toArray = ls at hl ⊢
    have hl : lv_has ls 2 (List.map gq [(0, vR none), (1, vI x1)]) := hl
    exact t_J1_charAt_3b067_r_0 X hr _ _ _ _ hf rfl s.heap [] ls hW va_S.rf (lv_has_sub hl (lvsub_of _ _ [0, 1] rfl))
  · have hl := lv_entry ([.ref x0, .int x1]) (n := 2) (Nat.le_of_ble_eq_true rfl)
    show W p l e rJ1_charAt_3b067_r s m _ below meth c s.heap [] 0 0 _ (entryFrame m ([.ref x0, .int x1] : List Value).toArray 2)
    rw [lg_entry_eq]
    generalize (lg_sl ([.ref x0, .int x1]) ++ List.replicate (2 - (lg_sl ([.ref x0, .int x1])).length) Slot.unset).toArray = ls at hl ⊢
    have hl : lv_has ls 2 (List.map gq [(0, vR (some x0)), (1, vI x1)]) := hl
    exact t_J1_charAt_3b067_r_0 X hr _ _ _ _ hf rfl s.heap [] ls hW va_S.rf (lv_has_sub hl (lvsub_of _ _ [0, 1] rfl))
/-! ## java/lang/String.charAt(I)C -/
theorem k_J0_charAt_5068e_r_f9 : Cond.fieldLink RJ0 9 "java/lang/String" "value" "[B" ∈ wsJ0_charAt_5068e := by decide +kernel
theorem i_J0_charAt_5068e_r_J0 : ∀ w ∈ u_ws RJ0 TJ0 4, w ∈ wsJ0_charAt_5068e := by decide +kernel
abbrev rJ0_charAt_5068e_r : Room := { frames := 3, cells := 0, slots := 0, locals := 64 }
noncomputable def b_J0_charAt_5068e_r_0 (Z : Nat → Nat) (M : gMem) (x0 : Nat) (x1 : Int32) : Option (Int32 × gMem) :=
  ck (mT M x0 = 12) <| bd (f_J0_isLatin1_aae02_r Z M x0) fun r1 M1 => (if r1 = 0 then none else ck (mT M1 x0 = 12) <| bd (f_J1_charAt_3b067_r Z M1 ((mR M1 x0 0)) x1) fun r4 M4 => ck (i2cV r4 = r4) <| some (r4, M4))
noncomputable def f_J0_charAt_5068e_r (Z : Nat → Nat) (M : gMem) (x0 : Nat) (x1 : Int32) : Option (Int32 × gMem) :=
  b_J0_charAt_5068e_r_0 Z M x0 x1
set_option maxHeartbeats 4000000 in
set_option maxRecDepth 100000 in
theorem t_J0_charAt_5068e_r_0 (X : gX p s m args meth c D cy B (gSt Z B H0) RJ0 cJ0_charAt_5068e wsJ0_charAt_5068e 2) (hr : meth.sig.returnType = (some .char)) {Q : State → Prop} : ∀ (M : gMem) (x0 : Nat) (x1 : Int32) (z : Int32 × gMem), b_J0_charAt_5068e_r_0 Z M x0 x1 = some z → (fun (r : Int32 × gMem) => Q = gMQ below D cy B H0 args s 0 0 (some (vI r.1)) r.2) z → gGo p l e rJ0_charAt_5068e_r s m args below meth c D cy B H0 2 0 0 Q 0 [(0, vR (some x0)), (1, vI x1)] [] M := by
  intro M x0 x1 z hf hK
  unfold b_J0_charAt_5068e_r_0 at hf
  refine g_aload_n X dJ0_charAt_5068e_0 rfl rfl ?_
  obtain ⟨hT2, hf⟩ := ck_e hf
  obtain ⟨r1, M1, hq1, hf⟩ := bd_e hf
  refine g_callV (ci := 11) (b := x0) (As := []) (st := []) (v := some (vI r1)) (M1 := M1) X (m_J0_isLatin1_aae02_r l hq1) (cwV 0 X.2.2.1 gJ0_charAt_5068e_J0_isLatin1_aae02 rfl rfl rfl (by decide +kernel) ⟨Nat.le_of_ble_eq_true rfl, Nat.le_of_ble_eq_true rfl⟩) rfl rfl rfl hT2 (by decide) rfl (Nat.le_of_ble_eq_true rfl) dJ0_charAt_5068e_1 ⟨by decide, by decide⟩ ?_
  refine g_if_eq (tgt := 16) X dJ0_charAt_5068e_4 (by decide) (fun hc => ?_) (fun hc => ?_)
  · have hf := ife_t hc hf
    cases hf
  · have hf := ife_f hc hf
    refine g_aload_n X dJ0_charAt_5068e_7 rfl rfl ?_
    obtain ⟨hT3, hf⟩ := ck_e hf
    refine g_get (ci := 11) (v := vR (mR M1 x0 0)) 0 X cdJ0 i_J0_charAt_5068e_r_J0 (by decide) k_J0_charAt_5068e_r_f9 rfl dJ0_charAt_5068e_8 rfl hT3 rfl ?_
    refine g_iload_n X dJ0_charAt_5068e_11 rfl rfl ?_
    obtain ⟨r4, M4, hq4, hf⟩ := bd_e hf
    refine g_callS (As := [vR (mR M1 x0 0), vI x1]) (st := []) (v := some (vI r4)) (M1 := M4) X (m_J1_charAt_3b067_r l hq4) (va_cwS 2 X.2.2.1 gJ0_charAt_5068e_J1_charAt_3b067 rfl rfl rfl (by decide +kernel) ⟨Nat.le_of_ble_eq_true rfl, Nat.le_of_ble_eq_true rfl⟩) rfl rfl (Nat.le_of_ble_eq_true rfl) dJ0_charAt_5068e_12 ⟨by decide, by decide⟩ ?_
    obtain ⟨hg5, hf⟩ := ck_e hf
    cases hf
    refine g_eqQ hK ?_
    exact g_zret X hr (gnc hg5) dJ0_charAt_5068e_15
set_option maxHeartbeats 4000000 in
set_option maxRecDepth 100000 in
theorem m_J0_charAt_5068e_r (l : Launch) {D : va_G} {cy : Nat → ClassId} {B : Nat} {H0 : Heap} {Z : Nat → Nat} {M M1 : gMem} {x0 : Nat} {x1 : Int32} {r : Int32} (hf : f_J0_charAt_5068e_r Z M x0 x1 = some (r, M1)) : Met l yJ0_charAt_5068e wsJ0_charAt_5068e rJ0_charAt_5068e_r (va_Pc (Value.ref x0 :: List.map gv [vI x1]) (gPre D cy B H0 (gSt Z B H0) M)) (gQ D cy B H0 (some (vI r)) M1) 0 0 (gA B) := by
  refine Met.ofW (cc := cJ0_charAt_5068e) (maxL := 2) (ret := (some .char)) (by decide) rfl ?_
  intro p e s m args below meth c s₁ Bd hml hv
  obtain ⟨rfl, hW, hKK, hFs⟩ := hv
  have X : gX p s m _ meth c D cy B (gSt Z B H0) RJ0 cJ0_charAt_5068e wsJ0_charAt_5068e 2 := ⟨Bd.exec, Bd.bytes, atoms_spec (ws := wsJ0_charAt_5068e) Bd.pre, findClass_of_methodNamed Bd.named, hml, hKK, by rw [hW.1]; exact hW.2.1, Bd.notSynchronized, hFs⟩
  have hr := Bd.returns
  have hl := lv_entry ([.ref x0, .int x1]) (n := 2) (Nat.le_of_ble_eq_true rfl)
  show W p l e rJ0_charAt_5068e_r s m _ below meth c s.heap [] 0 0 _ (entryFrame m ([.ref x0, .int x1] : List Value).toArray 2)
  rw [lg_entry_eq]
  generalize (lg_sl ([.ref x0, .int x1]) ++ List.replicate (2 - (lg_sl ([.ref x0, .int x1])).length) Slot.unset).toArray = ls at hl ⊢
  have hl : lv_has ls 2 (List.map gq [(0, vR (some x0)), (1, vI x1)]) := hl
  exact t_J0_charAt_5068e_r_0 X hr _ _ _ _ hf rfl s.heap [] ls hW va_S.rf (lv_has_sub hl (lvsub_of _ _ [0, 1] rfl))
/-! ## java/lang/String.getBytes([BIB)V -/
theorem dJ0_getBytes_840e7_0 : decode cJ0_getBytes_840e7 0 = .ok (.aload_n 0, 1) := by decide +kernel
theorem dJ0_getBytes_840e7_1 : decode cJ0_getBytes_840e7 1 = .ok (.invokevirtual 335, 3) := by decide +kernel
theorem dJ0_getBytes_840e7_4 : decode cJ0_getBytes_840e7 4 = .ok (.iload_n 3, 1) := by decide +kernel
theorem dJ0_getBytes_840e7_5 : decode cJ0_getBytes_840e7 5 = .ok (.if_icmp .ne 23, 3) := by decide +kernel
theorem dJ0_getBytes_840e7_8 : decode cJ0_getBytes_840e7 8 = .ok (.aload_n 0, 1) := by decide +kernel
theorem dJ0_getBytes_840e7_9 : decode cJ0_getBytes_840e7 9 = .ok (.getfield 9, 3) := by decide +kernel
theorem dJ0_getBytes_840e7_12 : decode cJ0_getBytes_840e7 12 = .ok (.iconst 0, 1) := by decide +kernel
theorem dJ0_getBytes_840e7_13 : decode cJ0_getBytes_840e7 13 = .ok (.aload_n 1, 1) := by decide +kernel
theorem dJ0_getBytes_840e7_14 : decode cJ0_getBytes_840e7 14 = .ok (.iload_n 2, 1) := by decide +kernel
theorem dJ0_getBytes_840e7_15 : decode cJ0_getBytes_840e7 15 = .ok (.iload_n 3, 1) := by decide +kernel
theorem dJ0_getBytes_840e7_16 : decode cJ0_getBytes_840e7 16 = .ok (.ishl, 1) := by decide +kernel
theorem dJ0_getBytes_840e7_17 : decode cJ0_getBytes_840e7 17 = .ok (.aload_n 0, 1) := by decide +kernel
theorem dJ0_getBytes_840e7_18 : decode cJ0_getBytes_840e7 18 = .ok (.getfield 9, 3) := by decide +kernel
theorem dJ0_getBytes_840e7_21 : decode cJ0_getBytes_840e7 21 = .ok (.arraylength, 1) := by decide +kernel
theorem dJ0_getBytes_840e7_22 : decode cJ0_getBytes_840e7 22 = .ok (.invokestatic 212, 3) := by decide +kernel
theorem dJ0_getBytes_840e7_25 : decode cJ0_getBytes_840e7 25 = .ok (.goto 18, 3) := by decide +kernel
theorem dJ0_getBytes_840e7_28 : decode cJ0_getBytes_840e7 28 = .ok (.aload_n 0, 1) := by decide +kernel
theorem dJ0_getBytes_840e7_43 : decode cJ0_getBytes_840e7 43 = .ok (.return_, 1) := by decide +kernel
set_option maxRecDepth 20000 in
theorem ggJ0_getBytes_840e7_J0_coder_7d493 : GoodIn wsJ0_getBytes_840e7 wsJ0_coder_7d493 := goodIn_r _ [10, 11, 12, 41, 42, 43, 44] (by decide +kernel) (by decide +kernel)
set_option maxRecDepth 20000 in
theorem gJ0_getBytes_840e7_J0_coder_7d493 : GoodIn wsJ0_getBytes_840e7 (wsV RJ0 335 RJ0 yJ0_coder_7d493 wsJ0_coder_7d493) := goodIn_app (goodIn_of _ (by decide +kernel)) ggJ0_getBytes_840e7_J0_coder_7d493
theorem k_J0_getBytes_840e7_S_f9 : Cond.fieldLink RJ0 9 "java/lang/String" "value" "[B" ∈ wsJ0_getBytes_840e7 := by decide +kernel
theorem k_J0_getBytes_840e7_S_ac212 : Cond.methodLink RJ0 212 arraycopyName ∈ wsJ0_getBytes_840e7 := by decide +kernel
theorem k_J0_getBytes_840e7_S_acn : Cond.native arraycopyName ∈ wsJ0_getBytes_840e7 := by decide +kernel
theorem k_J0_getBytes_840e7_S_acs : Cond.static arraycopyName ∈ wsJ0_getBytes_840e7 := by decide +kernel
theorem k_J0_getBytes_840e7_S_aci : Cond.initialized "java/lang/System" ∈ wsJ0_getBytes_840e7 := by decide +kernel
abbrev rJ0_getBytes_840e7_S : Room := { frames := 1, cells := 0, slots := 0, locals := 60 }
noncomputable def b_J0_getBytes_840e7_S_0 (Z : Nat → Nat) (M : gMem) (x0 : Nat) (x1 : Option Nat) (x2 : Int32) (x3 : Int32) : Option (Unit × gMem) :=
  ck (x0 < 94) <| bd (f_J0_coder_7d493 Z M x0) fun r1 M1 => (if r1 = x3 then dr x1 fun a3 => ck (mT M1 a3 = 22) <| ck (¬ (x2 <<< (x3 &&& 31)) < 0) <| ck (¬ (Int32.ofNat (sLn x0)) < 0) <| ck (((0 : Int32)).toNatClampNeg + ((Int32.ofNat (sLn x0))).toNatClampNeg ≤ sLn x0) <| ck (((x2 <<< (x3 &&& 31))).toNatClampNeg + ((Int32.ofNat (sLn x0))).toNatClampNeg ≤ mL M1 a3) <| lw (cpT M1 (sBy x0) ((0 : Int32)).toNatClampNeg a3 ((x2 <<< (x3 &&& 31))).toNatClampNeg ((Int32.ofNat (sLn x0))).toNatClampNeg) fun M9 => some ((), M9) else none)
noncomputable def f_J0_getBytes_840e7_S (Z : Nat → Nat) (M : gMem) (x0 : Nat) (x1 : Option Nat) (x2 : Int32) (x3 : Int32) : Option (Unit × gMem) :=
  b_J0_getBytes_840e7_S_0 Z M x0 x1 x2 x3
set_option maxHeartbeats 4000000 in
set_option maxRecDepth 100000 in
theorem t_J0_getBytes_840e7_S_0 (X : gX p s m args meth c D cy B (gSt Z B H0) RJ0 cJ0_getBytes_840e7 wsJ0_getBytes_840e7 4) (hr : meth.sig.returnType = none) {Q : State → Prop} : ∀ (M : gMem) (x0 : Nat) (x1 : Option Nat) (x2 : Int32) (x3 : Int32) (z : Unit × gMem), b_J0_getBytes_840e7_S_0 Z M x0 x1 x2 x3 = some z → (fun (r : Unit × gMem) => Q = gMQ below D cy B H0 args s 0 0 none r.2) z → gGo p l e rJ0_getBytes_840e7_S s m args below meth c D cy B H0 4 0 0 Q 0 [(0, vR (some (Z (100 + x0)))), (1, vR x1), (2, vI x2), (3, vI x3)] [] M := by
  intro M x0 x1 x2 x3 z hf hK
  unfold b_J0_getBytes_840e7_S_0 at hf
  refine g_aload_n X dJ0_getBytes_840e7_0 rfl rfl ?_
  obtain ⟨hg2, hf⟩ := ck_e hf
  obtain ⟨r1, M1, hq1, hf⟩ := bd_e hf
  refine g_callV0 (C := RJ0) (b := (Z (100 + x0))) (As := []) (st := []) (v := some (vI r1)) (M1 := M1) X (m_J0_coder_7d493 l hq1) (cwV 0 X.2.2.1 gJ0_getBytes_840e7_J0_coder_7d493 rfl rfl rfl (by decide +kernel) ⟨Nat.le_of_ble_eq_true rfl, Nat.le_of_ble_eq_true rfl⟩) rfl rfl rfl (fun H hW => gO_recv (gSt_sO X hg2) hW) (Nat.le_of_ble_eq_true rfl) dJ0_getBytes_840e7_1 ⟨by decide, by decide⟩ ?_
  refine g_iload_n X dJ0_getBytes_840e7_4 rfl rfl ?_
  refine g_icmp_ne (tgt := 28) X dJ0_getBytes_840e7_5 (by decide) (fun hc => ?_) (fun hc => ?_)
  · have hf := ife_f hc hf
    cases hf
  · have hf := ife_t hc hf
    refine g_aload_n X dJ0_getBytes_840e7_8 rfl rfl ?_
    refine g_getO (w := vR (some (Z (300 + x0)))) X (gSt_sv X hg2) rfl k_J0_getBytes_840e7_S_f9 rfl dJ0_getBytes_840e7_9 ?_
    refine g_iconst (v := (0 : Int32)) X dJ0_getBytes_840e7_12 (by decide) ?_
    refine g_aload_n X dJ0_getBytes_840e7_13 rfl rfl ?_
    refine g_iload_n X dJ0_getBytes_840e7_14 rfl rfl ?_
    refine g_iload_n X dJ0_getBytes_840e7_15 rfl rfl ?_
    refine g_ishl X dJ0_getBytes_840e7_16 ?_
    refine g_aload_n X dJ0_getBytes_840e7_17 rfl rfl ?_
    refine g_getO (w := vR (some (Z (300 + x0)))) X (gSt_sv X hg2) rfl k_J0_getBytes_840e7_S_f9 rfl dJ0_getBytes_840e7_18 ?_
    refine g_alenT X (gSt_sb X hg2) rfl dJ0_getBytes_840e7_21 ?_
    obtain ⟨a3, ha3, hf⟩ := dr_e hf
    obtain ⟨hT4, hf⟩ := ck_e hf
    obtain ⟨hg5, hf⟩ := ck_e hf
    obtain ⟨hg6, hf⟩ := ck_e hf
    obtain ⟨hg7, hf⟩ := ck_e hf
    obtain ⟨hg8, hf⟩ := ck_e hf
    refine g_copyBT X k_J0_getBytes_840e7_S_ac212 k_J0_getBytes_840e7_S_acn k_J0_getBytes_840e7_S_acs k_J0_getBytes_840e7_S_aci (gSt_sb X hg2) rfl ha3 hT4 (by decide) hg5 hg6 hg7 hg8 (sBy_b _ hg2) (Nat.le_of_ble_eq_true rfl) (Nat.le_of_ble_eq_true rfl) dJ0_getBytes_840e7_22 ?_
    obtain ⟨M9, hM9, hf⟩ := lw_e hf
    rw [← hM9]
    have hT10 : mT M9 a3 = 22 := by rw [hM9]; exact hT4
    refine g_goto (tgt := 43) X dJ0_getBytes_840e7_25 (by decide) ?_
    cases hf
    refine g_eqQ hK ?_
    exact g_vret X hr dJ0_getBytes_840e7_43
set_option maxHeartbeats 4000000 in
set_option maxRecDepth 100000 in
theorem m_J0_getBytes_840e7_S (l : Launch) {D : va_G} {cy : Nat → ClassId} {B : Nat} {H0 : Heap} {Z : Nat → Nat} {M M1 : gMem} {x0 : Nat} {x1 : Option Nat} {x2 : Int32} {x3 : Int32} {r : Unit} (hf : f_J0_getBytes_840e7_S Z M x0 x1 x2 x3 = some (r, M1)) : Met l yJ0_getBytes_840e7 wsJ0_getBytes_840e7 rJ0_getBytes_840e7_S (va_Pc (Value.ref (Z (100 + x0)) :: List.map gv [vR x1, vI x2, vI x3]) (gPre D cy B H0 (gSt Z B H0) M)) (gQ D cy B H0 none M1) 0 0 (gA B) := by
  refine Met.ofW (cc := cJ0_getBytes_840e7) (maxL := 4) (ret := none) (by decide) rfl ?_
  intro p e s m args below meth c s₁ Bd hml hv
  obtain ⟨rfl, hW, hKK, hFs⟩ := hv
  have X : gX p s m _ meth c D cy B (gSt Z B H0) RJ0 cJ0_getBytes_840e7 wsJ0_getBytes_840e7 4 := ⟨Bd.exec, Bd.bytes, atoms_spec (ws := wsJ0_getBytes_840e7) Bd.pre, findClass_of_methodNamed Bd.named, hml, hKK, by rw [hW.1]; exact hW.2.1, Bd.notSynchronized, hFs⟩
  have hr := Bd.returns
  rcases x1 with _ | x1
  · have hl := lv_entry ([.ref (Z (100 + x0)), .null, .int x2, .int x3]) (n := 4) (Nat.le_of_ble_eq_true rfl)
    show W p l e rJ0_getBytes_840e7_S s m _ below meth c s.heap [] 0 0 _ (entryFrame m ([.ref (Z (100 + x0)), .null, .int x2, .int x3] : List Value).toArray 4)
    rw [lg_entry_eq]
    generalize (lg_sl ([.ref (Z (100 + x0)), .null, .int x2, .int x3]) ++ List.replicate (4 - (lg_sl ([.ref (Z (100 + x0)), .null, .int x2, .int x3])).length) Slot.unset).toArray = ls at hl ⊢
    have hl : lv_has ls 4 (List.map gq [(0, vR (some (Z (100 + x0)))), (1, vR none), (2, vI x2), (3, vI x3)]) := hl
    exact t_J0_getBytes_840e7_S_0 X hr _ _ _ _ _ _ hf rfl s.heap [] ls hW va_S.rf (lv_has_sub hl (lvsub_of _ _ [0, 1, 2, 3] rfl))
  · have hl := lv_entry ([.ref (Z (100 + x0)), .ref x1, .int x2, .int x3]) (n := 4) (Nat.le_of_ble_eq_true rfl)
    show W p l e rJ0_getBytes_840e7_S s m _ below meth c s.heap [] 0 0 _ (entryFrame m ([.ref (Z (100 + x0)), .ref x1, .int x2, .int x3] : List Value).toArray 4)
    rw [lg_entry_eq]
    generalize (lg_sl ([.ref (Z (100 + x0)), .ref x1, .int x2, .int x3]) ++ List.replicate (4 - (lg_sl ([.ref (Z (100 + x0)), .ref x1, .int x2, .int x3])).length) Slot.unset).toArray = ls at hl ⊢
    have hl : lv_has ls 4 (List.map gq [(0, vR (some (Z (100 + x0)))), (1, vR (some x1)), (2, vI x2), (3, vI x3)]) := hl
    exact t_J0_getBytes_840e7_S_0 X hr _ _ _ _ _ _ hf rfl s.heap [] ls hW va_S.rf (lv_has_sub hl (lvsub_of _ _ [0, 1, 2, 3] rfl))
/-! ## java/lang/String.getBytes([BIB)V -/
theorem k_J0_getBytes_840e7_r_f9 : Cond.fieldLink RJ0 9 "java/lang/String" "value" "[B" ∈ wsJ0_getBytes_840e7 := by decide +kernel
theorem i_J0_getBytes_840e7_r_J0 : ∀ w ∈ u_ws RJ0 TJ0 4, w ∈ wsJ0_getBytes_840e7 := by decide +kernel
theorem k_J0_getBytes_840e7_r_ac212 : Cond.methodLink RJ0 212 arraycopyName ∈ wsJ0_getBytes_840e7 := by decide +kernel
theorem k_J0_getBytes_840e7_r_acn : Cond.native arraycopyName ∈ wsJ0_getBytes_840e7 := by decide +kernel
theorem k_J0_getBytes_840e7_r_acs : Cond.static arraycopyName ∈ wsJ0_getBytes_840e7 := by decide +kernel
theorem k_J0_getBytes_840e7_r_aci : Cond.initialized "java/lang/System" ∈ wsJ0_getBytes_840e7 := by decide +kernel
abbrev rJ0_getBytes_840e7_r : Room := { frames := 1, cells := 0, slots := 0, locals := 60 }
noncomputable def b_J0_getBytes_840e7_r_0 (Z : Nat → Nat) (M : gMem) (x0 : Nat) (x1 : Option Nat) (x2 : Int32) (x3 : Int32) : Option (Unit × gMem) :=
  ck (mT M x0 = 12) <| bd (f_J0_coder_7d493_r Z M x0) fun r1 M1 => (if r1 = x3 then ck (mT M1 x0 = 12) <| dr ((mR M1 x0 0)) fun a4 => ck (mT M1 a4 = 22) <| dr x1 fun a6 => ck (mT M1 a6 = 22) <| ck (¬ (x2 <<< (x3 &&& 31)) < 0) <| ck (¬ (Int32.ofNat (mL M1 a4)) < 0) <| ck (((0 : Int32)).toNatClampNeg + ((Int32.ofNat (mL M1 a4))).toNatClampNeg ≤ mL M1 a4) <| ck (((x2 <<< (x3 &&& 31))).toNatClampNeg + ((Int32.ofNat (mL M1 a4))).toNatClampNeg ≤ mL M1 a6) <| ck (∀ i, i < ((Int32.ofNat (mL M1 a4))).toNatClampNeg → i2bV (mI M1 a4 (((0 : Int32)).toNatClampNeg + i)) = mI M1 a4 (((0 : Int32)).toNatClampNeg + i)) <| lw (cpI M1 a4 ((0 : Int32)).toNatClampNeg a6 ((x2 <<< (x3 &&& 31))).toNatClampNeg ((Int32.ofNat (mL M1 a4))).toNatClampNeg) fun M13 => some ((), M13) else none)
noncomputable def f_J0_getBytes_840e7_r (Z : Nat → Nat) (M : gMem) (x0 : Nat) (x1 : Option Nat) (x2 : Int32) (x3 : Int32) : Option (Unit × gMem) :=
  b_J0_getBytes_840e7_r_0 Z M x0 x1 x2 x3
set_option maxHeartbeats 4000000 in
set_option maxRecDepth 100000 in
theorem t_J0_getBytes_840e7_r_0 (X : gX p s m args meth c D cy B (gSt Z B H0) RJ0 cJ0_getBytes_840e7 wsJ0_getBytes_840e7 4) (hr : meth.sig.returnType = none) {Q : State → Prop} : ∀ (M : gMem) (x0 : Nat) (x1 : Option Nat) (x2 : Int32) (x3 : Int32) (z : Unit × gMem), b_J0_getBytes_840e7_r_0 Z M x0 x1 x2 x3 = some z → (fun (r : Unit × gMem) => Q = gMQ below D cy B H0 args s 0 0 none r.2) z → gGo p l e rJ0_getBytes_840e7_r s m args below meth c D cy B H0 4 0 0 Q 0 [(0, vR (some x0)), (1, vR x1), (2, vI x2), (3, vI x3)] [] M := by
  intro M x0 x1 x2 x3 z hf hK
  unfold b_J0_getBytes_840e7_r_0 at hf
  refine g_aload_n X dJ0_getBytes_840e7_0 rfl rfl ?_
  obtain ⟨hT2, hf⟩ := ck_e hf
  obtain ⟨r1, M1, hq1, hf⟩ := bd_e hf
  refine g_callV (ci := 11) (b := x0) (As := []) (st := []) (v := some (vI r1)) (M1 := M1) X (m_J0_coder_7d493_r l hq1) (cwV 0 X.2.2.1 gJ0_getBytes_840e7_J0_coder_7d493 rfl rfl rfl (by decide +kernel) ⟨Nat.le_of_ble_eq_true rfl, Nat.le_of_ble_eq_true rfl⟩) rfl rfl rfl hT2 (by decide) rfl (Nat.le_of_ble_eq_true rfl) dJ0_getBytes_840e7_1 ⟨by decide, by decide⟩ ?_
  refine g_iload_n X dJ0_getBytes_840e7_4 rfl rfl ?_
  refine g_icmp_ne (tgt := 28) X dJ0_getBytes_840e7_5 (by decide) (fun hc => ?_) (fun hc => ?_)
  · have hf := ife_f hc hf
    cases hf
  · have hf := ife_t hc hf
    refine g_aload_n X dJ0_getBytes_840e7_8 rfl rfl ?_
    obtain ⟨hT3, hf⟩ := ck_e hf
    refine g_get (ci := 11) (v := vR (mR M1 x0 0)) 0 X cdJ0 i_J0_getBytes_840e7_r_J0 (by decide) k_J0_getBytes_840e7_r_f9 rfl dJ0_getBytes_840e7_9 rfl hT3 rfl ?_
    refine g_iconst (v := (0 : Int32)) X dJ0_getBytes_840e7_12 (by decide) ?_
    refine g_aload_n X dJ0_getBytes_840e7_13 rfl rfl ?_
    refine g_iload_n X dJ0_getBytes_840e7_14 rfl rfl ?_
    refine g_iload_n X dJ0_getBytes_840e7_15 rfl rfl ?_
    refine g_ishl X dJ0_getBytes_840e7_16 ?_
    refine g_aload_n X dJ0_getBytes_840e7_17 rfl rfl ?_
    refine g_get (ci := 11) (v := vR (mR M1 x0 0)) 0 X cdJ0 i_J0_getBytes_840e7_r_J0 (by decide) k_J0_getBytes_840e7_r_f9 rfl dJ0_getBytes_840e7_18 rfl hT3 rfl ?_
    obtain ⟨a4, ha4, hf⟩ := dr_e hf
    obtain ⟨hT5, hf⟩ := ck_e hf
    refine g_alen (t0 := 2) X dJ0_getBytes_840e7_21 ha4 hT5 (by decide) rfl ?_
    obtain ⟨a6, ha6, hf⟩ := dr_e hf
    obtain ⟨hT7, hf⟩ := ck_e hf
    obtain ⟨hg8, hf⟩ := ck_e hf
    obtain ⟨hg9, hf⟩ := ck_e hf
    obtain ⟨hg10, hf⟩ := ck_e hf
    obtain ⟨hg11, hf⟩ := ck_e hf
    obtain ⟨hg12, hf⟩ := ck_e hf
    refine g_copyB X k_J0_getBytes_840e7_r_ac212 k_J0_getBytes_840e7_r_acn k_J0_getBytes_840e7_r_acs k_J0_getBytes_840e7_r_aci ha4 ha6 hT5 hT7 (by decide) hg8 hg9 hg10 hg11 hg12 (Nat.le_of_ble_eq_true rfl) (Nat.le_of_ble_eq_true rfl) dJ0_getBytes_840e7_22 ?_
    obtain ⟨M13, hM13, hf⟩ := lw_e hf
    rw [← hM13]
    have hT14 : mT M13 x0 = 12 := by rw [hM13]; exact hT3
    have hT15 : mT M13 a4 = 22 := by rw [hM13]; exact hT5
    have hT16 : mT M13 a6 = 22 := by rw [hM13]; exact hT7
    refine g_goto (tgt := 43) X dJ0_getBytes_840e7_25 (by decide) ?_
    cases hf
    refine g_eqQ hK ?_
    exact g_vret X hr dJ0_getBytes_840e7_43
set_option maxHeartbeats 4000000 in
set_option maxRecDepth 100000 in
theorem m_J0_getBytes_840e7_r (l : Launch) {D : va_G} {cy : Nat → ClassId} {B : Nat} {H0 : Heap} {Z : Nat → Nat} {M M1 : gMem} {x0 : Nat} {x1 : Option Nat} {x2 : Int32} {x3 : Int32} {r : Unit} (hf : f_J0_getBytes_840e7_r Z M x0 x1 x2 x3 = some (r, M1)) : Met l yJ0_getBytes_840e7 wsJ0_getBytes_840e7 rJ0_getBytes_840e7_r (va_Pc (Value.ref x0 :: List.map gv [vR x1, vI x2, vI x3]) (gPre D cy B H0 (gSt Z B H0) M)) (gQ D cy B H0 none M1) 0 0 (gA B) := by
  refine Met.ofW (cc := cJ0_getBytes_840e7) (maxL := 4) (ret := none) (by decide) rfl ?_
  intro p e s m args below meth c s₁ Bd hml hv
  obtain ⟨rfl, hW, hKK, hFs⟩ := hv
  have X : gX p s m _ meth c D cy B (gSt Z B H0) RJ0 cJ0_getBytes_840e7 wsJ0_getBytes_840e7 4 := ⟨Bd.exec, Bd.bytes, atoms_spec (ws := wsJ0_getBytes_840e7) Bd.pre, findClass_of_methodNamed Bd.named, hml, hKK, by rw [hW.1]; exact hW.2.1, Bd.notSynchronized, hFs⟩
  have hr := Bd.returns
  rcases x1 with _ | x1
  · have hl := lv_entry ([.ref x0, .null, .int x2, .int x3]) (n := 4) (Nat.le_of_ble_eq_true rfl)
    show W p l e rJ0_getBytes_840e7_r s m _ below meth c s.heap [] 0 0 _ (entryFrame m ([.ref x0, .null, .int x2, .int x3] : List Value).toArray 4)
    rw [lg_entry_eq]
    generalize (lg_sl ([.ref x0, .null, .int x2, .int x3]) ++ List.replicate (4 - (lg_sl ([.ref x0, .null, .int x2, .int x3])).length) Slot.unset).toArray = ls at hl ⊢
    have hl : lv_has ls 4 (List.map gq [(0, vR (some x0)), (1, vR none), (2, vI x2), (3, vI x3)]) := hl
    exact t_J0_getBytes_840e7_r_0 X hr _ _ _ _ _ _ hf rfl s.heap [] ls hW va_S.rf (lv_has_sub hl (lvsub_of _ _ [0, 1, 2, 3] rfl))
  · have hl := lv_entry ([.ref x0, .ref x1, .int x2, .int x3]) (n := 4) (Nat.le_of_ble_eq_true rfl)
    show W p l e rJ0_getBytes_840e7_r s m _ below meth c s.heap [] 0 0 _ (entryFrame m ([.ref x0, .ref x1, .int x2, .int x3] : List Value).toArray 4)
    rw [lg_entry_eq]
    generalize (lg_sl ([.ref x0, .ref x1, .int x2, .int x3]) ++ List.replicate (4 - (lg_sl ([.ref x0, .ref x1, .int x2, .int x3])).length) Slot.unset).toArray = ls at hl ⊢
    have hl : lv_has ls 4 (List.map gq [(0, vR (some x0)), (1, vR (some x1)), (2, vI x2), (3, vI x3)]) := hl
    exact t_J0_getBytes_840e7_r_0 X hr _ _ _ _ _ _ hf rfl s.heap [] ls hW va_S.rf (lv_has_sub hl (lvsub_of _ _ [0, 1, 2, 3] rfl))
end
