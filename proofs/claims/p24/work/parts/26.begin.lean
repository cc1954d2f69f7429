section
variable {p : Program} {l : Launch} {e : Env} {s : State} {m : MethodId} {args : Array Value} {below : List Frame} {meth : Method} {c : Code} {D : va_G} {cy : Nat → ClassId} {B : Nat} {H0 : Heap} {Z : Nat → Nat}
/-! ## TideLots$Names.<init>(I)V -/
theorem dX4_init_0 : decode cX4_init 0 = .ok (.aload_n 0, 1) := by decide +kernel
theorem dX4_init_1 : decode cX4_init 1 = .ok (.invokespecial 1, 3) := by decide +kernel
theorem dX4_init_4 : decode cX4_init 4 = .ok (.aload_n 0, 1) := by decide +kernel
theorem dX4_init_5 : decode cX4_init 5 = .ok (.iload_n 1, 1) := by decide +kernel
theorem dX4_init_6 : decode cX4_init 6 = .ok (.iconst 0, 1) := by decide +kernel
theorem dX4_init_7 : decode cX4_init 7 = .ok (.invokestatic 7, 3) := by decide +kernel
theorem dX4_init_10 : decode cX4_init 10 = .ok (.newarray .long, 2) := by decide +kernel
theorem dX4_init_12 : decode cX4_init 12 = .ok (.putfield 13, 3) := by decide +kernel
theorem dX4_init_15 : decode cX4_init 15 = .ok (.return_, 1) := by decide +kernel
theorem k_X4_init_oi1 : Cond.methodLink RX4 1 objectInit ∈ wsX4_init := by decide +kernel
theorem k_X4_init_oi2 : Cond.instanceMethod objectInit ∈ wsX4_init := by decide +kernel
theorem k_X4_init_oi3 : Cond.code objectInit ⟨#[0xb1]⟩ 1 none ∈ wsX4_init := by decide +kernel
theorem k_X4_init_m7 : Cond.methodLink RX4 7 Lib.Math.max.name ∈ wsX4_init := by decide +kernel
theorem k_X4_init_mmaxs : Cond.static Lib.Math.max.name ∈ wsX4_init := by decide +kernel
theorem k_X4_init_mi : Cond.initialized "java/lang/Math" ∈ wsX4_init := by decide +kernel
theorem k_X4_init_mmaxc : Cond.code Lib.Math.max.name Lib.Math.max.code 2 (some .int) ∈ wsX4_init := by decide +kernel
theorem k_X4_init_aclong : Cond.arrayClass .long ∈ wsX4_init := by decide +kernel
theorem k_X4_init_f13 : Cond.fieldLink RX4 13 "TideLots$Names" "words" "[J" ∈ wsX4_init := by decide +kernel
theorem i_X4_init_X4 : ∀ w ∈ u_ws RX4 TX4 2, w ∈ wsX4_init := by decide +kernel
abbrev rX4_init : Room := { frames := 1, cells := 1, slots := 8, locals := 14 }
noncomputable def b_X4_init_0 (M : gMem) (x0 : Nat) (x1 : Int32) : Option (Unit × gMem) :=
  ck (¬ (imax x1 ((0 : Int32))) < 0) <| ck (((imax x1 ((0 : Int32)))).toNatClampNeg ≤ 8) <| lw (nW M 21 ((imax x1 ((0 : Int32)))).toNatClampNeg) fun M3 => ck (mT M3 x0 = 4) <| lw (wR M3 x0 0 ((some (mN M)))) fun M5 => some ((), M5)
noncomputable def f_X4_init (M : gMem) (x0 : Nat) (x1 : Int32) : Option (Unit × gMem) :=
  b_X4_init_0 M x0 x1
set_option maxHeartbeats 4000000 in
set_option maxRecDepth 100000 in
theorem t_X4_init_0 (X : gX p s m args meth c D cy B (gSt Z B H0) RX4 cX4_init wsX4_init 2) (hr : meth.sig.returnType = none) (hin : meth.name = "<init>") {Q : State → Prop} : ∀ (M : gMem) (x0 : Nat) (x1 : Int32) (z : Unit × gMem), b_X4_init_0 M x0 x1 = some z → (fun (r : Unit × gMem) => Q = gMQ below D cy B H0 args s 1 8 none r.2) z → gGo p l e rX4_init s m args below meth c D cy B H0 2 0 0 Q 0 [(0, vR (some x0)), (1, vI x1)] [] M := by
  intro M x0 x1 z hf hK
  unfold b_X4_init_0 at hf
  refine g_aload_n X dX4_init_0 rfl rfl ?_
  refine g_objInit (i9 := 0) (b := x0) X k_X4_init_oi1 k_X4_init_oi2 k_X4_init_oi3 rfl dX4_init_1 (Nat.le_of_ble_eq_true rfl) (Nat.le_of_ble_eq_true rfl) ?_
  refine g_aload_n X dX4_init_4 rfl rfl ?_
  refine g_iload_n X dX4_init_5 rfl rfl ?_
  refine g_iconst (v := (0 : Int32)) X dX4_init_6 (by decide) ?_
  refine g_max X k_X4_init_m7 k_X4_init_mmaxs k_X4_init_mi k_X4_init_mmaxc (Nat.le_of_ble_eq_true rfl) (Nat.le_of_ble_eq_true rfl) ⟨by decide, by decide⟩ dX4_init_7 ?_
  obtain ⟨hg1, hf⟩ := ck_e hf
  obtain ⟨hg2, hf⟩ := ck_e hf
  refine g_newa (at' := .long) (t0 := 0) X k_X4_init_aclong (by exact Or.inr (Or.inl ⟨rfl, rfl⟩)) hg1 (by omega) ⟨(by decide), Nat.le_trans (Nat.add_le_add_left hg2 _) (by decide)⟩ dX4_init_10 ?_
  refine g_wide (k' := 1) (n' := 8) (Nat.le_refl _) (Nat.add_le_add_left hg2 _) ?_
  obtain ⟨M3, hM3, hf⟩ := lw_e hf
  rw [← hM3]
  obtain ⟨hT4, hf⟩ := ck_e hf
  refine g_putR (ci := 3) 0 X cdX4 i_X4_init_X4 (by decide) k_X4_init_f13 rfl dX4_init_12 rfl hT4 (Or.inr ⟨rfl, hin, rfl⟩) (gnA _ _) (gfA _ _) rfl ?_
  obtain ⟨M5, hM5, hf⟩ := lw_e hf
  rw [← hM5]
  have hT6 : mT M5 x0 = 4 := by rw [hM5]; exact hT4
  cases hf
  refine g_eqQ hK ?_
  exact g_vret X hr dX4_init_15
set_option maxHeartbeats 4000000 in
set_option maxRecDepth 100000 in
theorem m_X4_init (l : Launch) {D : va_G} {cy : Nat → ClassId} {B : Nat} {H0 : Heap} {Z : Nat → Nat} {M M1 : gMem} {x0 : Nat} {x1 : Int32} {r : Unit} (hf : f_X4_init M x0 x1 = some (r, M1)) : Met l yX4_init wsX4_init rX4_init (va_Pc (Value.ref x0 :: List.map gv [vI x1]) (gPre D cy B H0 (gSt Z B H0) M)) (gQ D cy B H0 none M1) 1 8 (gA B) := by
  refine Met.ofW (cc := cX4_init) (maxL := 2) (ret := none) (by decide) rfl ?_
  intro p e s m args below meth c s₁ Bd hml hv
  obtain ⟨rfl, hW, hKK, hFs⟩ := hv
  have X : gX p s m _ meth c D cy B (gSt Z B H0) RX4 cX4_init wsX4_init 2 := ⟨Bd.exec, Bd.bytes, atoms_spec (ws := wsX4_init) Bd.pre, findClass_of_methodNamed Bd.named, hml, hKK, by rw [hW.1]; exact hW.2.1, Bd.notSynchronized, hFs⟩
  have hr := Bd.returns
  have hin : meth.name = "<init>" := (name_of_methodNamed Bd.named Bd.method).1
  have hl := lv_entry ([.ref x0, .int x1]) (n := 2) (Nat.le_of_ble_eq_true rfl)
  show W p l e rX4_init s m _ below meth c s.heap [] 0 0 _ (entryFrame m ([.ref x0, .int x1] : List Value).toArray 2)
  rw [lg_entry_eq]
  generalize (lg_sl ([.ref x0, .int x1]) ++ List.replicate (2 - (lg_sl ([.ref x0, .int x1])).length) Slot.unset).toArray = ls at hl ⊢
  have hl : lv_has ls 2 (List.map gq [(0, vR (some x0)), (1, vI x1)]) := hl
  exact t_X4_init_0 X hr hin _ _ _ _ hf rfl s.heap [] ls hW va_S.rf (lv_has_sub hl (lvsub_of _ _ [0, 1] rfl))
/-! ## TideLots$Fisher.<init>()V -/
theorem dX1_init_0 : decode cX1_init 0 = .ok (.aload_n 0, 1) := by decide +kernel
theorem dX1_init_1 : decode cX1_init 1 = .ok (.invokespecial 3, 3) := by decide +kernel
theorem dX1_init_4 : decode cX1_init 4 = .ok (.aload_n 0, 1) := by decide +kernel
theorem dX1_init_5 : decode cX1_init 5 = .ok (.iconst (-1), 1) := by decide +kernel
theorem dX1_init_6 : decode cX1_init 6 = .ok (.putfield 9, 3) := by decide +kernel
theorem dX1_init_9 : decode cX1_init 9 = .ok (.aload_n 0, 1) := by decide +kernel
theorem dX1_init_10 : decode cX1_init 10 = .ok (.bipush 8, 2) := by decide +kernel
theorem dX1_init_12 : decode cX1_init 12 = .ok (.newarray .int, 2) := by decide +kernel
theorem dX1_init_14 : decode cX1_init 14 = .ok (.putfield 15, 3) := by decide +kernel
theorem dX1_init_17 : decode cX1_init 17 = .ok (.return_, 1) := by decide +kernel
theorem k_X1_init_oi1 : Cond.methodLink RX1 3 objectInit ∈ wsX1_init := by decide +kernel
theorem k_X1_init_oi2 : Cond.instanceMethod objectInit ∈ wsX1_init := by decide +kernel
theorem k_X1_init_oi3 : Cond.code objectInit ⟨#[0xb1]⟩ 1 none ∈ wsX1_init := by decide +kernel
theorem k_X1_init_f9 : Cond.fieldLink RX1 9 "TideLots$Fisher" "place" "I" ∈ wsX1_init := by decide +kernel
theorem i_X1_init_X1 : ∀ w ∈ u_ws RX1 TX1 11, w ∈ wsX1_init := by decide +kernel
theorem k_X1_init_acint : Cond.arrayClass .int ∈ wsX1_init := by decide +kernel
theorem k_X1_init_f15 : Cond.fieldLink RX1 15 "TideLots$Fisher" "took" "[I" ∈ wsX1_init := by decide +kernel
abbrev rX1_init : Room := { frames := 1, cells := 1, slots := 8, locals := 12 }
noncomputable def b_X1_init_0 (M : gMem) (x0 : Nat) : Option (Unit × gMem) :=
  ck (mT M x0 = 1) <| lw (wI M x0 6 ((-1 : Int32))) fun M2 => lw (nW M2 20 ((8 : Int32)).toNatClampNeg) fun M4 => ck (mT M4 x0 = 1) <| lw (wR M4 x0 10 ((some (mN M2)))) fun M6 => some ((), M6)
noncomputable def f_X1_init (M : gMem) (x0 : Nat) : Option (Unit × gMem) :=
  b_X1_init_0 M x0
set_option maxHeartbeats 4000000 in
set_option maxRecDepth 100000 in
theorem t_X1_init_0 (X : gX p s m args meth c D cy B (gSt Z B H0) RX1 cX1_init wsX1_init 1) (hr : meth.sig.returnType = none) (hin : meth.name = "<init>") {Q : State → Prop} : ∀ (M : gMem) (x0 : Nat) (z : Unit × gMem), b_X1_init_0 M x0 = some z → (fun (r : Unit × gMem) => Q = gMQ below D cy B H0 args s 1 8 none r.2) z → gGo p l e rX1_init s m args below meth c D cy B H0 1 0 0 Q 0 [(0, vR (some x0))] [] M := by
  intro M x0 z hf hK
  unfold b_X1_init_0 at hf
  refine g_aload_n X dX1_init_0 rfl rfl ?_
  refine g_objInit (i9 := 0) (b := x0) X k_X1_init_oi1 k_X1_init_oi2 k_X1_init_oi3 rfl dX1_init_1 (Nat.le_of_ble_eq_true rfl) (Nat.le_of_ble_eq_true rfl) ?_
  refine g_aload_n X dX1_init_4 rfl rfl ?_
  refine g_iconst (v := (-1 : Int32)) X dX1_init_5 (by decide) ?_
  obtain ⟨hT1, hf⟩ := ck_e hf
  refine g_putI (ci := 0) 6 X cdX1 i_X1_init_X1 (by decide) k_X1_init_f9 rfl dX1_init_6 rfl hT1 (Or.inl rfl) rfl rfl rfl ?_
  obtain ⟨M2, hM2, hf⟩ := lw_e hf
  rw [← hM2]
  have hT3 : mT M2 x0 = 1 := by rw [hM2]; exact hT1
  refine g_aload_n X dX1_init_9 rfl rfl ?_
  refine g_bipush (v := (8 : Int32)) X dX1_init_10 (by decide) ?_
  refine g_newa (at' := .int) (t0 := 0) X k_X1_init_acint (by exact Or.inl ⟨rfl, rfl⟩) (by decide) (by decide) ⟨(by decide), (by decide)⟩ dX1_init_12 ?_
  obtain ⟨M4, hM4, hf⟩ := lw_e hf
  rw [← hM4]
  obtain ⟨hT5, hf⟩ := ck_e hf
  refine g_putR (ci := 0) 10 X cdX1 i_X1_init_X1 (by decide) k_X1_init_f15 rfl dX1_init_14 rfl hT5 (Or.inr ⟨rfl, hin, rfl⟩) (gnA _ _) (gfA _ _) rfl ?_
  obtain ⟨M6, hM6, hf⟩ := lw_e hf
  rw [← hM6]
  have hT7 : mT M6 x0 = 1 := by rw [hM6]; exact hT5
  cases hf
  refine g_eqQ hK ?_
  exact g_vret X hr dX1_init_17
set_option maxHeartbeats 4000000 in
set_option maxRecDepth 100000 in
theorem m_X1_init (l : Launch) {D : va_G} {cy : Nat → ClassId} {B : Nat} {H0 : Heap} {Z : Nat → Nat} {M M1 : gMem} {x0 : Nat} {r : Unit} (hf : f_X1_init M x0 = some (r, M1)) : Met l yX1_init wsX1_init rX1_init (va_Pc (Value.ref x0 :: List.map gv []) (gPre D cy B H0 (gSt Z B H0) M)) (gQ D cy B H0 none M1) 1 8 (gA B) := by
  refine Met.ofW (cc := cX1_init) (maxL := 1) (ret := none) (by decide) rfl ?_
  intro p e s m args below meth c s₁ Bd hml hv
  obtain ⟨rfl, hW, hKK, hFs⟩ := hv
  have X : gX p s m _ meth c D cy B (gSt Z B H0) RX1 cX1_init wsX1_init 1 := ⟨Bd.exec, Bd.bytes, atoms_spec (ws := wsX1_init) Bd.pre, findClass_of_methodNamed Bd.named, hml, hKK, by rw [hW.1]; exact hW.2.1, Bd.notSynchronized, hFs⟩
  have hr := Bd.returns
  have hin : meth.name = "<init>" := (name_of_methodNamed Bd.named Bd.method).1
  have hl := lv_entry ([.ref x0]) (n := 1) (Nat.le_of_ble_eq_true rfl)
  show W p l e rX1_init s m _ below meth c s.heap [] 0 0 _ (entryFrame m ([.ref x0] : List Value).toArray 1)
  rw [lg_entry_eq]
  generalize (lg_sl ([.ref x0]) ++ List.replicate (1 - (lg_sl ([.ref x0])).length) Slot.unset).toArray = ls at hl ⊢
  have hl : lv_has ls 1 (List.map gq [(0, vR (some x0))]) := hl
  exact t_X1_init_0 X hr hin _ _ _ hf rfl s.heap [] ls hW va_S.rf (lv_has_sub hl (lvsub_of _ _ [0] rfl))
/-! ## TideLots$Go.<init>()V -/
theorem dX2_init_0 : decode cX2_init 0 = .ok (.aload_n 0, 1) := by decide +kernel
theorem dX2_init_1 : decode cX2_init 1 = .ok (.invokespecial 1, 3) := by decide +kernel
theorem dX2_init_4 : decode cX2_init 4 = .ok (.return_, 1) := by decide +kernel
theorem k_X2_init_oi1 : Cond.methodLink RX2 1 objectInit ∈ wsX2_init := by decide +kernel
theorem k_X2_init_oi2 : Cond.instanceMethod objectInit ∈ wsX2_init := by decide +kernel
theorem k_X2_init_oi3 : Cond.code objectInit ⟨#[0xb1]⟩ 1 none ∈ wsX2_init := by decide +kernel
abbrev rX2_init : Room := { frames := 1, cells := 0, slots := 0, locals := 12 }
noncomputable def b_X2_init_0 (M : gMem) (x0 : Nat) : Option (Unit × gMem) :=
  some ((), M)
noncomputable def f_X2_init (M : gMem) (x0 : Nat) : Option (Unit × gMem) :=
  b_X2_init_0 M x0
set_option maxHeartbeats 4000000 in
set_option maxRecDepth 100000 in
theorem t_X2_init_0 (X : gX p s m args meth c D cy B (gSt Z B H0) RX2 cX2_init wsX2_init 1) (hr : meth.sig.returnType = none) (hin : meth.name = "<init>") {Q : State → Prop} : ∀ (M : gMem) (x0 : Nat) (z : Unit × gMem), b_X2_init_0 M x0 = some z → (fun (r : Unit × gMem) => Q = gMQ below D cy B H0 args s 0 0 none r.2) z → gGo p l e rX2_init s m args below meth c D cy B H0 1 0 0 Q 0 [(0, vR (some x0))] [] M := by
  intro M x0 z hf hK
  unfold b_X2_init_0 at hf
  refine g_aload_n X dX2_init_0 rfl rfl ?_
  refine g_objInit (i9 := 0) (b := x0) X k_X2_init_oi1 k_X2_init_oi2 k_X2_init_oi3 rfl dX2_init_1 (Nat.le_of_ble_eq_true rfl) (Nat.le_of_ble_eq_true rfl) ?_
  cases hf
  refine g_eqQ hK ?_
  exact g_vret X hr dX2_init_4
set_option maxHeartbeats 4000000 in
set_option maxRecDepth 100000 in
theorem m_X2_init (l : Launch) {D : va_G} {cy : Nat → ClassId} {B : Nat} {H0 : Heap} {Z : Nat → Nat} {M M1 : gMem} {x0 : Nat} {r : Unit} (hf : f_X2_init M x0 = some (r, M1)) : Met l yX2_init wsX2_init rX2_init (va_Pc (Value.ref x0 :: List.map gv []) (gPre D cy B H0 (gSt Z B H0) M)) (gQ D cy B H0 none M1) 0 0 (gA B) := by
  refine Met.ofW (cc := cX2_init) (maxL := 1) (ret := none) (by decide) rfl ?_
  intro p e s m args below meth c s₁ Bd hml hv
  obtain ⟨rfl, hW, hKK, hFs⟩ := hv
  have X : gX p s m _ meth c D cy B (gSt Z B H0) RX2 cX2_init wsX2_init 1 := ⟨Bd.exec, Bd.bytes, atoms_spec (ws := wsX2_init) Bd.pre, findClass_of_methodNamed Bd.named, hml, hKK, by rw [hW.1]; exact hW.2.1, Bd.notSynchronized, hFs⟩
  have hr := Bd.returns
  have hin : meth.name = "<init>" := (name_of_methodNamed Bd.named Bd.method).1
  have hl := lv_entry ([.ref x0]) (n := 1) (Nat.le_of_ble_eq_true rfl)
  show W p l e rX2_init s m _ below meth c s.heap [] 0 0 _ (entryFrame m ([.ref x0] : List Value).toArray 1)
  rw [lg_entry_eq]
  generalize (lg_sl ([.ref x0]) ++ List.replicate (1 - (lg_sl ([.ref x0])).length) Slot.unset).toArray = ls at hl ⊢
  have hl : lv_has ls 1 (List.map gq [(0, vR (some x0))]) := hl
  exact t_X2_init_0 X hr hin _ _ _ hf rfl s.heap [] ls hW va_S.rf (lv_has_sub hl (lvsub_of _ _ [0] rfl))
/-! ## TideLots$Ground.<init>()V -/
theorem dX3_init_0 : decode cX3_init 0 = .ok (.aload_n 0, 1) := by decide +kernel
theorem dX3_init_1 : decode cX3_init 1 = .ok (.invokespecial 3, 3) := by decide +kernel
theorem dX3_init_4 : decode cX3_init 4 = .ok (.aload_n 0, 1) := by decide +kernel
theorem dX3_init_5 : decode cX3_init 5 = .ok (.bipush 6, 2) := by decide +kernel
theorem dX3_init_7 : decode cX3_init 7 = .ok (.newarray .int, 2) := by decide +kernel
theorem dX3_init_9 : decode cX3_init 9 = .ok (.putfield 9, 3) := by decide +kernel
theorem dX3_init_12 : decode cX3_init 12 = .ok (.return_, 1) := by decide +kernel
theorem k_X3_init_oi1 : Cond.methodLink RX3 3 objectInit ∈ wsX3_init := by decide +kernel
theorem k_X3_init_oi2 : Cond.instanceMethod objectInit ∈ wsX3_init := by decide +kernel
theorem k_X3_init_oi3 : Cond.code objectInit ⟨#[0xb1]⟩ 1 none ∈ wsX3_init := by decide +kernel
theorem k_X3_init_acint : Cond.arrayClass .int ∈ wsX3_init := by decide +kernel
theorem k_X3_init_f9 : Cond.fieldLink RX3 9 "TideLots$Ground" "fish" "[I" ∈ wsX3_init := by decide +kernel
theorem i_X3_init_X3 : ∀ w ∈ u_ws RX3 TX3 4, w ∈ wsX3_init := by decide +kernel
abbrev rX3_init : Room := { frames := 1, cells := 1, slots := 6, locals := 12 }
noncomputable def b_X3_init_0 (M : gMem) (x0 : Nat) : Option (Unit × gMem) :=
  lw (nW M 20 ((6 : Int32)).toNatClampNeg) fun M1 => ck (mT M1 x0 = 3) <| lw (wR M1 x0 3 ((some (mN M)))) fun M3 => some ((), M3)
noncomputable def f_X3_init (M : gMem) (x0 : Nat) : Option (Unit × gMem) :=
  b_X3_init_0 M x0
set_option maxHeartbeats 4000000 in
set_option maxRecDepth 100000 in
theorem t_X3_init_0 (X : gX p s m args meth c D cy B (gSt Z B H0) RX3 cX3_init wsX3_init 1) (hr : meth.sig.returnType = none) (hin : meth.name = "<init>") {Q : State → Prop} : ∀ (M : gMem) (x0 : Nat) (z : Unit × gMem), b_X3_init_0 M x0 = some z → (fun (r : Unit × gMem) => Q = gMQ below D cy B H0 args s 1 6 none r.2) z → gGo p l e rX3_init s m args below meth c D cy B H0 1 0 0 Q 0 [(0, vR (some x0))] [] M := by
  intro M x0 z hf hK
  unfold b_X3_init_0 at hf
  refine g_aload_n X dX3_init_0 rfl rfl ?_
  refine g_objInit (i9 := 0) (b := x0) X k_X3_init_oi1 k_X3_init_oi2 k_X3_init_oi3 rfl dX3_init_1 (Nat.le_of_ble_eq_true rfl) (Nat.le_of_ble_eq_true rfl) ?_
  refine g_aload_n X dX3_init_4 rfl rfl ?_
  refine g_bipush (v := (6 : Int32)) X dX3_init_5 (by decide) ?_
  refine g_newa (at' := .int) (t0 := 0) X k_X3_init_acint (by exact Or.inl ⟨rfl, rfl⟩) (by decide) (by decide) ⟨(by decide), (by decide)⟩ dX3_init_7 ?_
  obtain ⟨M1, hM1, hf⟩ := lw_e hf
  rw [← hM1]
  obtain ⟨hT2, hf⟩ := ck_e hf
  refine g_putR (ci := 2) 3 X cdX3 i_X3_init_X3 (by decide) k_X3_init_f9 rfl dX3_init_9 rfl hT2 (Or.inr ⟨rfl, hin, rfl⟩) (gnA _ _) (gfA _ _) rfl ?_
  obtain ⟨M3, hM3, hf⟩ := lw_e hf
  rw [← hM3]
  have hT4 : mT M3 x0 = 3 := by rw [hM3]; exact hT2
  cases hf
  refine g_eqQ hK ?_
  exact g_vret X hr dX3_init_12
set_option maxHeartbeats 4000000 in
set_option maxRecDepth 100000 in
theorem m_X3_init (l : Launch) {D : va_G} {cy : Nat → ClassId} {B : Nat} {H0 : Heap} {Z : Nat → Nat} {M M1 : gMem} {x0 : Nat} {r : Unit} (hf : f_X3_init M x0 = some (r, M1)) : Met l yX3_init wsX3_init rX3_init (va_Pc (Value.ref x0 :: List.map gv []) (gPre D cy B H0 (gSt Z B H0) M)) (gQ D cy B H0 none M1) 1 6 (gA B) := by
  refine Met.ofW (cc := cX3_init) (maxL := 1) (ret := none) (by decide) rfl ?_
  intro p e s m args below meth c s₁ Bd hml hv
  obtain ⟨rfl, hW, hKK, hFs⟩ := hv
  have X : gX p s m _ meth c D cy B (gSt Z B H0) RX3 cX3_init wsX3_init 1 := ⟨Bd.exec, Bd.bytes, atoms_spec (ws := wsX3_init) Bd.pre, findClass_of_methodNamed Bd.named, hml, hKK, by rw [hW.1]; exact hW.2.1, Bd.notSynchronized, hFs⟩
  have hr := Bd.returns
  have hin : meth.name = "<init>" := (name_of_methodNamed Bd.named Bd.method).1
  have hl := lv_entry ([.ref x0]) (n := 1) (Nat.le_of_ble_eq_true rfl)
  show W p l e rX3_init s m _ below meth c s.heap [] 0 0 _ (entryFrame m ([.ref x0] : List Value).toArray 1)
  rw [lg_entry_eq]
  generalize (lg_sl ([.ref x0]) ++ List.replicate (1 - (lg_sl ([.ref x0])).length) Slot.unset).toArray = ls at hl ⊢
  have hl : lv_has ls 1 (List.map gq [(0, vR (some x0))]) := hl
  exact t_X3_init_0 X hr hin _ _ _ hf rfl s.heap [] ls hW va_S.rf (lv_has_sub hl (lvsub_of _ _ [0] rfl))
/-! ## TideLots$Pact.<init>()V -/
theorem dX5_init_0 : decode cX5_init 0 = .ok (.aload_n 0, 1) := by decide +kernel
theorem dX5_init_1 : decode cX5_init 1 = .ok (.invokespecial 3, 3) := by decide +kernel
theorem dX5_init_4 : decode cX5_init 4 = .ok (.aload_n 0, 1) := by decide +kernel
theorem dX5_init_5 : decode cX5_init 5 = .ok (.iconst (-1), 1) := by decide +kernel
theorem dX5_init_6 : decode cX5_init 6 = .ok (.putfield 9, 3) := by decide +kernel
theorem dX5_init_9 : decode cX5_init 9 = .ok (.aload_n 0, 1) := by decide +kernel
theorem dX5_init_10 : decode cX5_init 10 = .ok (.bipush 8, 2) := by decide +kernel
theorem dX5_init_12 : decode cX5_init 12 = .ok (.newarray .int, 2) := by decide +kernel
theorem dX5_init_14 : decode cX5_init 14 = .ok (.putfield 15, 3) := by decide +kernel
theorem dX5_init_17 : decode cX5_init 17 = .ok (.return_, 1) := by decide +kernel
theorem k_X5_init_oi1 : Cond.methodLink RX5 3 objectInit ∈ wsX5_init := by decide +kernel
theorem k_X5_init_oi2 : Cond.instanceMethod objectInit ∈ wsX5_init := by decide +kernel
theorem k_X5_init_oi3 : Cond.code objectInit ⟨#[0xb1]⟩ 1 none ∈ wsX5_init := by decide +kernel
theorem k_X5_init_f9 : Cond.fieldLink RX5 9 "TideLots$Pact" "ground" "I" ∈ wsX5_init := by decide +kernel
theorem i_X5_init_X5 : ∀ w ∈ u_ws RX5 TX5 8, w ∈ wsX5_init := by decide +kernel
theorem k_X5_init_acint : Cond.arrayClass .int ∈ wsX5_init := by decide +kernel
theorem k_X5_init_f15 : Cond.fieldLink RX5 15 "TideLots$Pact" "fishers" "[I" ∈ wsX5_init := by decide +kernel
abbrev rX5_init : Room := { frames := 1, cells := 1, slots := 8, locals := 12 }
noncomputable def b_X5_init_0 (M : gMem) (x0 : Nat) : Option (Unit × gMem) :=
  ck (mT M x0 = 5) <| lw (wI M x0 0 ((-1 : Int32))) fun M2 => lw (nW M2 20 ((8 : Int32)).toNatClampNeg) fun M4 => ck (mT M4 x0 = 5) <| lw (wR M4 x0 4 ((some (mN M2)))) fun M6 => some ((), M6)
noncomputable def f_X5_init (M : gMem) (x0 : Nat) : Option (Unit × gMem) :=
  b_X5_init_0 M x0
set_option maxHeartbeats 4000000 in
set_option maxRecDepth 100000 in
theorem t_X5_init_0 (X : gX p s m args meth c D cy B (gSt Z B H0) RX5 cX5_init wsX5_init 1) (hr : meth.sig.returnType = none) (hin : meth.name = "<init>") {Q : State → Prop} : ∀ (M : gMem) (x0 : Nat) (z : Unit × gMem), b_X5_init_0 M x0 = some z → (fun (r : Unit × gMem) => Q = gMQ below D cy B H0 args s 1 8 none r.2) z → gGo p l e rX5_init s m args below meth c D cy B H0 1 0 0 Q 0 [(0, vR (some x0))] [] M := by
  intro M x0 z hf hK
  unfold b_X5_init_0 at hf
  refine g_aload_n X dX5_init_0 rfl rfl ?_
  refine g_objInit (i9 := 0) (b := x0) X k_X5_init_oi1 k_X5_init_oi2 k_X5_init_oi3 rfl dX5_init_1 (Nat.le_of_ble_eq_true rfl) (Nat.le_of_ble_eq_true rfl) ?_
  refine g_aload_n X dX5_init_4 rfl rfl ?_
  refine g_iconst (v := (-1 : Int32)) X dX5_init_5 (by decide) ?_
  obtain ⟨hT1, hf⟩ := ck_e hf
  refine g_putI (ci := 4) 0 X cdX5 i_X5_init_X5 (by decide) k_X5_init_f9 rfl dX5_init_6 rfl hT1 (Or.inl rfl) rfl rfl rfl ?_
  obtain ⟨M2, hM2, hf⟩ := lw_e hf
  rw [← hM2]
  have hT3 : mT M2 x0 = 5 := by rw [hM2]; exact hT1
  refine g_aload_n X dX5_init_9 rfl rfl ?_
  refine g_bipush (v := (8 : Int32)) X dX5_init_10 (by decide) ?_
  refine g_newa (at' := .int) (t0 := 0) X k_X5_init_acint (by exact Or.inl ⟨rfl, rfl⟩) (by decide) (by decide) ⟨(by decide), (by decide)⟩ dX5_init_12 ?_
  obtain ⟨M4, hM4, hf⟩ := lw_e hf
  rw [← hM4]
  obtain ⟨hT5, hf⟩ := ck_e hf
  refine g_putR (ci := 4) 4 X cdX5 i_X5_init_X5 (by decide) k_X5_init_f15 rfl dX5_init_14 rfl hT5 (Or.inr ⟨rfl, hin, rfl⟩) (gnA _ _) (gfA _ _) rfl ?_
  obtain ⟨M6, hM6, hf⟩ := lw_e hf
  rw [← hM6]
  have hT7 : mT M6 x0 = 5 := by rw [hM6]; exact hT5
  cases hf
  refine g_eqQ hK ?_
  exact g_vret X hr dX5_init_17
set_option maxHeartbeats 4000000 in
set_option maxRecDepth 100000 in
theorem m_X5_init (l : Launch) {D : va_G} {cy : Nat → ClassId} {B : Nat} {H0 : Heap} {Z : Nat → Nat} {M M1 : gMem} {x0 : Nat} {r : Unit} (hf : f_X5_init M x0 = some (r, M1)) : Met l yX5_init wsX5_init rX5_init (va_Pc (Value.ref x0 :: List.map gv []) (gPre D cy B H0 (gSt Z B H0) M)) (gQ D cy B H0 none M1) 1 8 (gA B) := by
  refine Met.ofW (cc := cX5_init) (maxL := 1) (ret := none) (by decide) rfl ?_
  intro p e s m args below meth c s₁ Bd hml hv
  obtain ⟨rfl, hW, hKK, hFs⟩ := hv
  have X : gX p s m _ meth c D cy B (gSt Z B H0) RX5 cX5_init wsX5_init 1 := ⟨Bd.exec, Bd.bytes, atoms_spec (ws := wsX5_init) Bd.pre, findClass_of_methodNamed Bd.named, hml, hKK, by rw [hW.1]; exact hW.2.1, Bd.notSynchronized, hFs⟩
  have hr := Bd.returns
  have hin : meth.name = "<init>" := (name_of_methodNamed Bd.named Bd.method).1
  have hl := lv_entry ([.ref x0]) (n := 1) (Nat.le_of_ble_eq_true rfl)
  show W p l e rX5_init s m _ below meth c s.heap [] 0 0 _ (entryFrame m ([.ref x0] : List Value).toArray 1)
  rw [lg_entry_eq]
  generalize (lg_sl ([.ref x0]) ++ List.replicate (1 - (lg_sl ([.ref x0])).length) Slot.unset).toArray = ls at hl ⊢
  have hl : lv_has ls 1 (List.map gq [(0, vR (some x0))]) := hl
  exact t_X5_init_0 X hr hin _ _ _ hf rfl s.heap [] ls hW va_S.rf (lv_has_sub hl (lvsub_of _ _ [0] rfl))
/-! ## TideLots$Reader.<init>(LTideLots$Tape;LTideLots$Shore;)V -/
theorem dX6_init_0 : decode cX6_init 0 = .ok (.aload_n 0, 1) := by decide +kernel
theorem dX6_init_1 : decode cX6_init 1 = .ok (.invokespecial 3, 3) := by decide +kernel
theorem dX6_init_4 : decode cX6_init 4 = .ok (.aload_n 0, 1) := by decide +kernel
theorem dX6_init_5 : decode cX6_init 5 = .ok (.iconst (-1), 1) := by decide +kernel
theorem dX6_init_6 : decode cX6_init 6 = .ok (.putfield 9, 3) := by decide +kernel
theorem dX6_init_9 : decode cX6_init 9 = .ok (.aload_n 0, 1) := by decide +kernel
theorem dX6_init_10 : decode cX6_init 10 = .ok (.new 15, 3) := by decide +kernel
theorem dX6_init_13 : decode cX6_init 13 = .ok (.dup, 1) := by decide +kernel
theorem dX6_init_14 : decode cX6_init 14 = .ok (.bipush 8, 2) := by decide +kernel
theorem dX6_init_16 : decode cX6_init 16 = .ok (.invokespecial 17, 3) := by decide +kernel
theorem dX6_init_19 : decode cX6_init 19 = .ok (.putfield 20, 3) := by decide +kernel
theorem dX6_init_22 : decode cX6_init 22 = .ok (.aload_n 0, 1) := by decide +kernel
theorem dX6_init_23 : decode cX6_init 23 = .ok (.new 15, 3) := by decide +kernel
theorem dX6_init_26 : decode cX6_init 26 = .ok (.dup, 1) := by decide +kernel
theorem dX6_init_27 : decode cX6_init 27 = .ok (.bipush 8, 2) := by decide +kernel
theorem dX6_init_29 : decode cX6_init 29 = .ok (.invokespecial 17, 3) := by decide +kernel
theorem dX6_init_32 : decode cX6_init 32 = .ok (.putfield 24, 3) := by decide +kernel
theorem dX6_init_35 : decode cX6_init 35 = .ok (.aload_n 0, 1) := by decide +kernel
theorem dX6_init_36 : decode cX6_init 36 = .ok (.new 15, 3) := by decide +kernel
theorem dX6_init_39 : decode cX6_init 39 = .ok (.dup, 1) := by decide +kernel
theorem dX6_init_40 : decode cX6_init 40 = .ok (.bipush 6, 2) := by decide +kernel
theorem dX6_init_42 : decode cX6_init 42 = .ok (.invokespecial 17, 3) := by decide +kernel
theorem dX6_init_45 : decode cX6_init 45 = .ok (.putfield 27, 3) := by decide +kernel
theorem dX6_init_48 : decode cX6_init 48 = .ok (.aload_n 0, 1) := by decide +kernel
theorem dX6_init_49 : decode cX6_init 49 = .ok (.aload_n 1, 1) := by decide +kernel
theorem dX6_init_50 : decode cX6_init 50 = .ok (.putfield 30, 3) := by decide +kernel
theorem dX6_init_53 : decode cX6_init 53 = .ok (.aload_n 0, 1) := by decide +kernel
theorem dX6_init_54 : decode cX6_init 54 = .ok (.aload_n 2, 1) := by decide +kernel
theorem dX6_init_55 : decode cX6_init 55 = .ok (.putfield 34, 3) := by decide +kernel
theorem dX6_init_58 : decode cX6_init 58 = .ok (.return_, 1) := by decide +kernel
set_option maxRecDepth 20000 in
theorem ggX6_init_X4_init : GoodIn wsX6_init wsX4_init := goodIn_r _ [15, 16, 2, 3, 17, 18, 19, 20, 21, 22, 32, 33] (by decide +kernel) (by decide +kernel)
set_option maxRecDepth 20000 in
theorem gX6_init_X4_init : GoodIn wsX6_init (wsX4_init) := ggX6_init_X4_init
theorem k_X6_init_oi1 : Cond.methodLink RX6 3 objectInit ∈ wsX6_init := by decide +kernel
theorem k_X6_init_oi2 : Cond.instanceMethod objectInit ∈ wsX6_init := by decide +kernel
theorem k_X6_init_oi3 : Cond.code objectInit ⟨#[0xb1]⟩ 1 none ∈ wsX6_init := by decide +kernel
theorem k_X6_init_f9 : Cond.fieldLink RX6 9 "TideLots$Reader" "errorAt" "I" ∈ wsX6_init := by decide +kernel
theorem i_X6_init_X6 : ∀ w ∈ u_ws RX6 TX6 9, w ∈ wsX6_init := by decide +kernel
theorem i_X6_init_X4 : ∀ w ∈ u_ws RX4 TX4 2, w ∈ wsX6_init := by decide +kernel
theorem k_X6_init_cl15 : Cond.classLink RX6 15 RX4 ∈ wsX6_init := by decide +kernel
theorem k_X6_init_inX4 : Cond.instantiable RX4 2 ∈ wsX6_init := by decide +kernel
theorem k_X6_init_iiX4 : Cond.initialized RX4 ∈ wsX6_init := by decide +kernel
theorem k_X6_init_ml17 : Cond.methodLink RX6 17 yX4_init ∈ wsX6_init := by decide +kernel
theorem k_X6_init_imX4_init : Cond.instanceMethod yX4_init ∈ wsX6_init := by decide +kernel
theorem k_X6_init_f20 : Cond.fieldLink RX6 20 "TideLots$Reader" "groundNames" "LTideLots$Names;" ∈ wsX6_init := by decide +kernel
theorem k_X6_init_f24 : Cond.fieldLink RX6 24 "TideLots$Reader" "fisherNames" "LTideLots$Names;" ∈ wsX6_init := by decide +kernel
theorem k_X6_init_f27 : Cond.fieldLink RX6 27 "TideLots$Reader" "pactNames" "LTideLots$Names;" ∈ wsX6_init := by decide +kernel
theorem k_X6_init_f30 : Cond.fieldLink RX6 30 "TideLots$Reader" "tape" "LTideLots$Tape;" ∈ wsX6_init := by decide +kernel
theorem k_X6_init_f34 : Cond.fieldLink RX6 34 "TideLots$Reader" "built" "LTideLots$Shore;" ∈ wsX6_init := by decide +kernel
abbrev rX6_init : Room := { frames := 2, cells := 6, slots := 30, locals := 35 }
noncomputable def b_X6_init_0 (M : gMem) (x0 : Nat) (x1 : Option Nat) (x2 : Option Nat) : Option (Unit × gMem) :=
  ck (mT M x0 = 6) <| lw (wI M x0 0 ((-1 : Int32))) fun M2 => lw (nW M2 4 0) fun M4 => bd (f_X4_init M4 ((mN M2)) ((8 : Int32))) fun _ M5 => ck (mT M5 x0 = 6) <| lw (wR M5 x0 3 ((some (mN M2)))) fun M7 => lw (nW M7 4 0) fun M9 => bd (f_X4_init M9 ((mN M7)) ((8 : Int32))) fun _ M10 => ck (mT M10 x0 = 6) <| lw (wR M10 x0 4 ((some (mN M7)))) fun M12 => lw (nW M12 4 0) fun M14 => bd (f_X4_init M14 ((mN M12)) ((6 : Int32))) fun _ M15 => ck (mT M15 x0 = 6) <| lw (wR M15 x0 5 ((some (mN M12)))) fun M17 => lw (wR M17 x0 1 x1) fun M19 => lw (wR M19 x0 2 x2) fun M21 => some ((), M21)
noncomputable def f_X6_init (M : gMem) (x0 : Nat) (x1 : Option Nat) (x2 : Option Nat) : Option (Unit × gMem) :=
  b_X6_init_0 M x0 x1 x2
set_option maxHeartbeats 4000000 in
set_option maxRecDepth 100000 in
theorem t_X6_init_0 (X : gX p s m args meth c D cy B (gSt Z B H0) RX6 cX6_init wsX6_init 3) (hr : meth.sig.returnType = none) (hin : meth.name = "<init>") {Q : State → Prop} : ∀ (M : gMem) (x0 : Nat) (x1 : Option Nat) (x2 : Option Nat) (z : Unit × gMem), b_X6_init_0 M x0 x1 x2 = some z → (fun (r : Unit × gMem) => Q = gMQ below D cy B H0 args s 6 30 none r.2) z → gGo p l e rX6_init s m args below meth c D cy B H0 3 0 0 Q 0 [(0, vR (some x0)), (1, vR x1), (2, vR x2)] [] M := by
  intro M x0 x1 x2 z hf hK
  unfold b_X6_init_0 at hf
  refine g_aload_n X dX6_init_0 rfl rfl ?_
  refine g_objInit (i9 := 0) (b := x0) X k_X6_init_oi1 k_X6_init_oi2 k_X6_init_oi3 rfl dX6_init_1 (Nat.le_of_ble_eq_true rfl) (Nat.le_of_ble_eq_true rfl) ?_
  refine g_aload_n X dX6_init_4 rfl rfl ?_
  refine g_iconst (v := (-1 : Int32)) X dX6_init_5 (by decide) ?_
  obtain ⟨hT1, hf⟩ := ck_e hf
  refine g_putI (ci := 5) 0 X cdX6 i_X6_init_X6 (by decide) k_X6_init_f9 rfl dX6_init_6 rfl hT1 (Or.inl rfl) rfl rfl rfl ?_
  obtain ⟨M2, hM2, hf⟩ := lw_e hf
  rw [← hM2]
  have hT3 : mT M2 x0 = 6 := by rw [hM2]; exact hT1
  refine g_aload_n X dX6_init_9 rfl rfl ?_
  refine g_new (ci := 3) X cdX4 i_X6_init_X4 k_X6_init_cl15 k_X6_init_inX4 k_X6_init_iiX4 (by intro i hi; rcases (show i = 0 ∨ i = 1 by omega) with rfl | rfl <;> rfl) ⟨by decide, by decide⟩ dX6_init_10 ?_
  obtain ⟨M4, hM4, hf⟩ := lw_e hf
  rw [← hM4]
  refine g_dup X dX6_init_13 rfl ?_
  refine g_bipush (v := (8 : Int32)) X dX6_init_14 (by decide) ?_
  obtain ⟨r5, M5, hq5, hf⟩ := bd_e hf
  refine g_callI (b := (mN M2)) (As := [vI (8 : Int32)]) (st := [vR (some (mN M2)), vR (some x0)]) (M1 := M5) X (m_X4_init l hq5) (cwI 1 X.2.2.1 gX6_init_X4_init rfl rfl rfl (X.2.2.1 _ k_X6_init_iiX4) (X.2.2.1 _ k_X6_init_ml17) (X.2.2.1 _ k_X6_init_imX4_init) rfl (by decide +kernel) ⟨Nat.le_of_ble_eq_true rfl, Nat.le_of_ble_eq_true rfl⟩) rfl rfl rfl (Nat.le_of_ble_eq_true rfl) dX6_init_16 ⟨by decide, by decide⟩ ?_
  obtain ⟨hT6, hf⟩ := ck_e hf
  refine g_putR (ci := 5) 3 X cdX6 i_X6_init_X6 (by decide) k_X6_init_f20 rfl dX6_init_19 rfl hT6 (Or.inr ⟨rfl, hin, rfl⟩) (gnO _ _) (gfO _ _) rfl ?_
  obtain ⟨M7, hM7, hf⟩ := lw_e hf
  rw [← hM7]
  have hT8 : mT M7 x0 = 6 := by rw [hM7]; exact hT6
  refine g_aload_n X dX6_init_22 rfl rfl ?_
  refine g_new (ci := 3) X cdX4 i_X6_init_X4 k_X6_init_cl15 k_X6_init_inX4 k_X6_init_iiX4 (by intro i hi; rcases (show i = 0 ∨ i = 1 by omega) with rfl | rfl <;> rfl) ⟨by decide, by decide⟩ dX6_init_23 ?_
  obtain ⟨M9, hM9, hf⟩ := lw_e hf
  rw [← hM9]
  refine g_dup X dX6_init_26 rfl ?_
  refine g_bipush (v := (8 : Int32)) X dX6_init_27 (by decide) ?_
  obtain ⟨r10, M10, hq10, hf⟩ := bd_e hf
  refine g_callI (b := (mN M7)) (As := [vI (8 : Int32)]) (st := [vR (some (mN M7)), vR (some x0)]) (M1 := M10) X (m_X4_init l hq10) (cwI 1 X.2.2.1 gX6_init_X4_init rfl rfl rfl (X.2.2.1 _ k_X6_init_iiX4) (X.2.2.1 _ k_X6_init_ml17) (X.2.2.1 _ k_X6_init_imX4_init) rfl (by decide +kernel) ⟨Nat.le_of_ble_eq_true rfl, Nat.le_of_ble_eq_true rfl⟩) rfl rfl rfl (Nat.le_of_ble_eq_true rfl) dX6_init_29 ⟨by decide, by decide⟩ ?_
  obtain ⟨hT11, hf⟩ := ck_e hf
  refine g_putR (ci := 5) 4 X cdX6 i_X6_init_X6 (by decide) k_X6_init_f24 rfl dX6_init_32 rfl hT11 (Or.inr ⟨rfl, hin, rfl⟩) (gnO _ _) (gfO _ _) rfl ?_
  obtain ⟨M12, hM12, hf⟩ := lw_e hf
  rw [← hM12]
  have hT13 : mT M12 x0 = 6 := by rw [hM12]; exact hT11
  refine g_aload_n X dX6_init_35 rfl rfl ?_
  refine g_new (ci := 3) X cdX4 i_X6_init_X4 k_X6_init_cl15 k_X6_init_inX4 k_X6_init_iiX4 (by intro i hi; rcases (show i = 0 ∨ i = 1 by omega) with rfl | rfl <;> rfl) ⟨by decide, by decide⟩ dX6_init_36 ?_
  obtain ⟨M14, hM14, hf⟩ := lw_e hf
  rw [← hM14]
  refine g_dup X dX6_init_39 rfl ?_
  refine g_bipush (v := (6 : Int32)) X dX6_init_40 (by decide) ?_
  obtain ⟨r15, M15, hq15, hf⟩ := bd_e hf
  refine g_callI (b := (mN M12)) (As := [vI (6 : Int32)]) (st := [vR (some (mN M12)), vR (some x0)]) (M1 := M15) X (m_X4_init l hq15) (cwI 1 X.2.2.1 gX6_init_X4_init rfl rfl rfl (X.2.2.1 _ k_X6_init_iiX4) (X.2.2.1 _ k_X6_init_ml17) (X.2.2.1 _ k_X6_init_imX4_init) rfl (by decide +kernel) ⟨Nat.le_of_ble_eq_true rfl, Nat.le_of_ble_eq_true rfl⟩) rfl rfl rfl (Nat.le_of_ble_eq_true rfl) dX6_init_42 ⟨by decide, by decide⟩ ?_
  obtain ⟨hT16, hf⟩ := ck_e hf
  refine g_putR (ci := 5) 5 X cdX6 i_X6_init_X6 (by decide) k_X6_init_f27 rfl dX6_init_45 rfl hT16 (Or.inr ⟨rfl, hin, rfl⟩) (gnO _ _) (gfO _ _) rfl ?_
  obtain ⟨M17, hM17, hf⟩ := lw_e hf
  rw [← hM17]
  have hT18 : mT M17 x0 = 6 := by rw [hM17]; exact hT16
  refine g_aload_n X dX6_init_48 rfl rfl ?_
  refine g_aload_n X dX6_init_49 rfl rfl ?_
  refine g_putR (ci := 5) 1 X cdX6 i_X6_init_X6 (by decide) k_X6_init_f30 rfl dX6_init_50 rfl hT18 (Or.inr ⟨rfl, hin, rfl⟩) (gnO _ _) (gfO _ _) rfl ?_
  obtain ⟨M19, hM19, hf⟩ := lw_e hf
  rw [← hM19]
  have hT20 : mT M19 x0 = 6 := by rw [hM19]; exact hT18
  refine g_aload_n X dX6_init_53 rfl rfl ?_
  refine g_aload_n X dX6_init_54 rfl rfl ?_
  refine g_putR (ci := 5) 2 X cdX6 i_X6_init_X6 (by decide) k_X6_init_f34 rfl dX6_init_55 rfl hT20 (Or.inr ⟨rfl, hin, rfl⟩) (gnO _ _) (gfO _ _) rfl ?_
  obtain ⟨M21, hM21, hf⟩ := lw_e hf
  rw [← hM21]
  have hT22 : mT M21 x0 = 6 := by rw [hM21]; exact hT20
  cases hf
  refine g_eqQ hK ?_
  exact g_vret X hr dX6_init_58
set_option maxHeartbeats 4000000 in
set_option maxRecDepth 100000 in
theorem m_X6_init (l : Launch) {D : va_G} {cy : Nat → ClassId} {B : Nat} {H0 : Heap} {Z : Nat → Nat} {M M1 : gMem} {x0 : Nat} {x1 : Option Nat} {x2 : Option Nat} {r : Unit} (hf : f_X6_init M x0 x1 x2 = some (r, M1)) : Met l yX6_init wsX6_init rX6_init (va_Pc (Value.ref x0 :: List.map gv [vR x1, vR x2]) (gPre D cy B H0 (gSt Z B H0) M)) (gQ D cy B H0 none M1) 6 30 (gA B) := by
  refine Met.ofW (cc := cX6_init) (maxL := 3) (ret := none) (by decide) rfl ?_
  intro p e s m args below meth c s₁ Bd hml hv
  obtain ⟨rfl, hW, hKK, hFs⟩ := hv
  have X : gX p s m _ meth c D cy B (gSt Z B H0) RX6 cX6_init wsX6_init 3 := ⟨Bd.exec, Bd.bytes, atoms_spec (ws := wsX6_init) Bd.pre, findClass_of_methodNamed Bd.named, hml, hKK, by rw [hW.1]; exact hW.2.1, Bd.notSynchronized, hFs⟩
  have hr := Bd.returns
  have hin : meth.name = "<init>" := (name_of_methodNamed Bd.named Bd.method).1
  rcases x1 with _ | x1
  · rcases x2 with _ | x2
    · have hl := lv_entry ([.ref x0, .null, .null]) (n := 3) (Nat.le_of_ble_eq_true rfl)
      show W p l e rX6_init s m _ below meth c s.heap [] 0 0 _ (entryFrame m ([.ref x0, .null, .null] : List Value).toArray 3)
      rw [lg_entry_eq]
      generalize (lg_sl ([.ref x0, .null, .null]) ++ List.replicate (3 - (lg_sl ([.ref x0, .null, .null])).length) Slot.unset).toArray = ls at hl ⊢
      have hl : lv_has ls 3 (List.map gq [(0, vR (some x0)), (1, vR none), (2, vR none)]) := hl
      exact t_X6_init_0 X hr hin _ _ _ _ _ hf rfl s.heap [] ls hW va_S.rf (lv_has_sub hl (lvsub_of _ _ [0, 1, 2] rfl))
    · have hl := lv_entry ([.ref x0, .null, .ref x2]) (n := 3) (Nat.le_of_ble_eq_true rfl)
      show W p l e rX6_init s m _ below meth c s.heap [] 0 0 _ (entryFrame m ([.ref x0, .null, .ref x2] : List Value).toArray 3)
      rw [lg_entry_eq]
      generalize (lg_sl ([.ref x0, .null, .ref x2]) ++ List.replicate (3 - (lg_sl ([.ref x0, .null, .ref x2])).length) Slot.unset).toArray = ls at hl ⊢
      have hl : lv_has ls 3 (List.map gq [(0, vR (some x0)), (1, vR none), (2, vR (some x2))]) := hl
      exact t_X6_init_0 X hr hin _ _ _ _ _ hf rfl s.heap [] ls hW va_S.rf (lv_has_sub hl (lvsub_of _ _ [0, 1, 2] rfl))
  · rcases x2 with _ | x2
    · have hl := lv_entry ([.ref x0, .ref x1, .null]) (n := 3) (Nat.le_of_ble_eq_true rfl)
      show W p l e rX6_init s m _ below meth c s.heap [] 0 0 _ (entryFrame m ([.ref x0, .ref x1, .null] : List Value).toArray 3)
      rw [lg_entry_eq]
      generalize (lg_sl ([.ref x0, .ref x1, .null]) ++ List.replicate (3 - (lg_sl ([.ref x0, .ref x1, .null])).length) Slot.unset).toArray = ls at hl ⊢
      have hl : lv_has ls 3 (List.map gq [(0, vR (some x0)), (1, vR (some x1)), (2, vR none)]) := hl
      exact t_X6_init_0 X hr hin _ _ _ _ _ hf rfl s.heap [] ls hW va_S.rf (lv_has_sub hl (lvsub_of _ _ [0, 1, 2] rfl))
    · have hl := lv_entry ([.ref x0, .ref x1, .ref x2]) (n := 3) (Nat.le_of_ble_eq_true rfl)
      show W p l e rX6_init s m _ below meth c s.heap [] 0 0 _ (entryFrame m ([.ref x0, .ref x1, .ref x2] : List Value).toArray 3)
      rw [lg_entry_eq]
      generalize (lg_sl ([.ref x0, .ref x1, .ref x2]) ++ List.replicate (3 - (lg_sl ([.ref x0, .ref x1, .ref x2])).length) Slot.unset).toArray = ls at hl ⊢
      have hl : lv_has ls 3 (List.map gq [(0, vR (some x0)), (1, vR (some x1)), (2, vR (some x2))]) := hl
      exact t_X6_init_0 X hr hin _ _ _ _ _ hf rfl s.heap [] ls hW va_S.rf (lv_has_sub hl (lvsub_of _ _ [0, 1, 2] rfl))
/-! ## TideLots$Sums.<init>()V -/
theorem dX9_init_0 : decode cX9_init 0 = .ok (.aload_n 0, 1) := by decide +kernel
theorem dX9_init_1 : decode cX9_init 1 = .ok (.invokespecial 3, 3) := by decide +kernel
theorem dX9_init_4 : decode cX9_init 4 = .ok (.aload_n 0, 1) := by decide +kernel
theorem dX9_init_5 : decode cX9_init 5 = .ok (.sipush 400, 3) := by decide +kernel
theorem dX9_init_8 : decode cX9_init 8 = .ok (.anewarray 9, 3) := by decide +kernel
theorem dX9_init_11 : decode cX9_init 11 = .ok (.putfield 11, 3) := by decide +kernel
theorem dX9_init_14 : decode cX9_init 14 = .ok (.aload_n 0, 1) := by decide +kernel
theorem dX9_init_15 : decode cX9_init 15 = .ok (.sipush 400, 3) := by decide +kernel
theorem dX9_init_18 : decode cX9_init 18 = .ok (.newarray .int, 2) := by decide +kernel
theorem dX9_init_20 : decode cX9_init 20 = .ok (.putfield 17, 3) := by decide +kernel
theorem dX9_init_23 : decode cX9_init 23 = .ok (.aload_n 0, 1) := by decide +kernel
theorem dX9_init_24 : decode cX9_init 24 = .ok (.sipush 400, 3) := by decide +kernel
theorem dX9_init_27 : decode cX9_init 27 = .ok (.newarray .int, 2) := by decide +kernel
theorem dX9_init_29 : decode cX9_init 29 = .ok (.putfield 21, 3) := by decide +kernel
theorem dX9_init_32 : decode cX9_init 32 = .ok (.iconst 0, 1) := by decide +kernel
theorem dX9_init_33 : decode cX9_init 33 = .ok (.istore_n 1, 1) := by decide +kernel
theorem dX9_init_34 : decode cX9_init 34 = .ok (.iload_n 1, 1) := by decide +kernel
theorem dX9_init_35 : decode cX9_init 35 = .ok (.aload_n 0, 1) := by decide +kernel
theorem dX9_init_36 : decode cX9_init 36 = .ok (.getfield 11, 3) := by decide +kernel
theorem dX9_init_39 : decode cX9_init 39 = .ok (.arraylength, 1) := by decide +kernel
theorem dX9_init_40 : decode cX9_init 40 = .ok (.if_icmp .ge 18, 3) := by decide +kernel
theorem dX9_init_43 : decode cX9_init 43 = .ok (.aload_n 0, 1) := by decide +kernel
theorem dX9_init_44 : decode cX9_init 44 = .ok (.getfield 11, 3) := by decide +kernel
theorem dX9_init_47 : decode cX9_init 47 = .ok (.iload_n 1, 1) := by decide +kernel
theorem dX9_init_48 : decode cX9_init 48 = .ok (.getstatic 24, 3) := by decide +kernel
theorem dX9_init_51 : decode cX9_init 51 = .ok (.aastore, 1) := by decide +kernel
theorem dX9_init_52 : decode cX9_init 52 = .ok (.iinc 1 1, 3) := by decide +kernel
theorem dX9_init_55 : decode cX9_init 55 = .ok (.goto (-21), 3) := by decide +kernel
theorem dX9_init_58 : decode cX9_init 58 = .ok (.return_, 1) := by decide +kernel
theorem k_X9_init_f11 : Cond.fieldLink RX9 11 "TideLots$Sums" "signs" "[LTideLots$Sign;" ∈ wsX9_init := by decide +kernel
theorem i_X9_init_X9 : ∀ w ∈ u_ws RX9 TX9 4, w ∈ wsX9_init := by decide +kernel
theorem k_X9_init_f24 : Cond.fieldLink RX9 24 "TideLots$Sign" "NUMBER" "LTideLots$Sign;" ∈ wsX9_init := by decide +kernel
theorem k_X9_init_oi1 : Cond.methodLink RX9 3 objectInit ∈ wsX9_init := by decide +kernel
theorem k_X9_init_oi2 : Cond.instanceMethod objectInit ∈ wsX9_init := by decide +kernel
theorem k_X9_init_oi3 : Cond.code objectInit ⟨#[0xb1]⟩ 1 none ∈ wsX9_init := by decide +kernel
theorem k_X9_init_cl9 : Cond.classLink RX9 9 RX8 ∈ wsX9_init := by decide +kernel
theorem k_X9_init_acint : Cond.arrayClass .int ∈ wsX9_init := by decide +kernel
theorem k_X9_init_f17 : Cond.fieldLink RX9 17 "TideLots$Sums" "values" "[I" ∈ wsX9_init := by decide +kernel
theorem k_X9_init_f21 : Cond.fieldLink RX9 21 "TideLots$Sums" "stack" "[I" ∈ wsX9_init := by decide +kernel
abbrev rX9_init : Room := { frames := 1, cells := 3, slots := 1200, locals := 12 }
noncomputable def bb_X9_init_34 (Z : Nat → Nat) (M : gMem) (x0 : Nat) (x1 : Int32) : Option ((gMem × Int32) ⊕ (Unit × gMem)) :=
  ck (mT M x0 = 8) <| dr ((mR M x0 1)) fun a2 => ck (mT M a2 = 27) <| (if (Int32.ofNat (mL M a2)) ≤ x1 then oI (some ((), M)) else ck (inb x1 (mL M a2)) <| lw (wR M a2 x1.toNatClampNeg ((some (Z 41)))) fun M6 => some (.inl (M6, (x1 + (1 : Int32)))))
noncomputable def lp_X9_init_34 (Z : Nat → Nat) (M : gMem) (x0 : Nat) (x1 : Int32) : Option (Unit × gMem) :=
  lp (fun (q : gMem × Int32) => bb_X9_init_34 Z q.1 x0 q.2) (M, x1)
noncomputable def b_X9_init_0 (Z : Nat → Nat) (M : gMem) (x0 : Nat) : Option (Unit × gMem) :=
  lw (nW M 27 ((400 : Int32)).toNatClampNeg) fun M9 => ck (mT M9 x0 = 8) <| lw (wR M9 x0 1 ((some (mN M)))) fun M11 => lw (nW M11 20 ((400 : Int32)).toNatClampNeg) fun M13 => ck (mT M13 x0 = 8) <| lw (wR M13 x0 2 ((some (mN M11)))) fun M15 => lw (nW M15 20 ((400 : Int32)).toNatClampNeg) fun M17 => ck (mT M17 x0 = 8) <| lw (wR M17 x0 3 ((some (mN M15)))) fun M19 => lp_X9_init_34 Z M19 x0 ((0 : Int32))
noncomputable def f_X9_init (Z : Nat → Nat) (M : gMem) (x0 : Nat) : Option (Unit × gMem) :=
  b_X9_init_0 Z M x0
set_option maxHeartbeats 4000000 in
set_option maxRecDepth 100000 in
theorem tb_X9_init_34 (X2 : gX p s m args meth c D cy B (gSt2 Z B H0) RX9 cX9_init wsX9_init 2) (hr : meth.sig.returnType = none) (hin : meth.name = "<init>") {Q : State → Prop} : ∀ (M : gMem) (x0 : Nat) (x1 : Int32) (z : (gMem × Int32) ⊕ (Unit × gMem)), bb_X9_init_34 Z M x0 x1 = some z → (Sum.elim (fun (q : gMem × Int32) => gGo p l e rX9_init s m args below meth c D cy B H0 2 3 1200 Q 34 [(0, vR (some x0)), (1, vI q.2)] [] q.1) (fun (r : Unit × gMem) => Q = gMQ below D cy B H0 args s 3 1200 none r.2)) z → gGo p l e rX9_init s m args below meth c D cy B H0 2 3 1200 Q 34 [(0, vR (some x0)), (1, vI x1)] [] M := by
  intro M x0 x1 z hf hK
  unfold bb_X9_init_34 at hf
  have X := gX_w X2
  refine g_iload_n X dX9_init_34 rfl rfl ?_
  refine g_aload_n X dX9_init_35 rfl rfl ?_
  obtain ⟨hT1, hf⟩ := ck_e hf
  refine g_get (ci := 7) (v := vR (mR M x0 1)) 1 X cdX9 i_X9_init_X9 (by decide) k_X9_init_f11 rfl dX9_init_36 rfl hT1 rfl ?_
  obtain ⟨a2, ha2, hf⟩ := dr_e hf
  obtain ⟨hT3, hf⟩ := ck_e hf
  refine g_alen (t0 := 7) X dX9_init_39 ha2 hT3 (by decide) rfl ?_
  refine g_icmp_ge (tgt := 58) X dX9_init_40 (by decide) (fun hc => ?_) (fun hc => ?_)
  · have hf := ife_t hc hf
    obtain ⟨w4, hw4, hz4⟩ := oI_e hf
    subst hz4
    have hf := hw4
    cases hf
    refine g_eqQ hK ?_
    exact g_vret X hr dX9_init_58
  · have hf := ife_f hc hf
    refine g_aload_n X dX9_init_43 rfl rfl ?_
    refine g_get (ci := 7) (v := vR (mR M x0 1)) 1 X cdX9 i_X9_init_X9 (by decide) k_X9_init_f11 rfl dX9_init_44 rfl hT1 rfl ?_
    refine g_iload_n X dX9_init_47 rfl rfl ?_
    refine g_gets (w := vR (some (Z 41))) X (gSt_E X 41 (by decide)) k_X9_init_f24 rfl dX9_init_48 ?_
    obtain ⟨hg5, hf⟩ := ck_e hf
    refine g_aastE X dX9_init_51 ha2 hT3 hg5 rfl (by decide) ?_
    obtain ⟨M6, hM6, hf⟩ := lw_e hf
    rw [← hM6]
    have hT7 : mT M6 x0 = 8 := by rw [hM6]; exact hT1
    have hT8 : mT M6 a2 = 27 := by rw [hM6]; exact hT3
    refine g_iinc (v := (1 : Int32)) (lv' := [(1, vI (x1 + (1 : Int32))), (0, vR (some x0))]) X dX9_init_52 rfl (by decide) (by decide) rfl ?_
    refine g_goto (tgt := 34) X dX9_init_55 (by decide) ?_
    cases hf
    refine g_sub (lvsub_of _ _ [1, 0] rfl) ?_
    exact hK
set_option maxHeartbeats 4000000 in
set_option maxRecDepth 100000 in
theorem tl_X9_init_34 (X2 : gX p s m args meth c D cy B (gSt2 Z B H0) RX9 cX9_init wsX9_init 2) (hr : meth.sig.returnType = none) (hin : meth.name = "<init>") {Q : State → Prop} : ∀ (M : gMem) (x0 : Nat) (x1 : Int32) (z : Unit × gMem), lp_X9_init_34 Z M x0 x1 = some z → (fun (r : Unit × gMem) => Q = gMQ below D cy B H0 args s 3 1200 none r.2) z → gGo p l e rX9_init s m args below meth c D cy B H0 2 3 1200 Q 34 [(0, vR (some x0)), (1, vI x1)] [] M := by
  intro M x0 x1 z hf hK
  refine lp_ind (P := (fun (q : gMem × Int32) (z : Unit × gMem) => (fun (r : Unit × gMem) => Q = gMQ below D cy B H0 args s 3 1200 none r.2) z → gGo p l e rX9_init s m args below meth c D cy B H0 2 3 1200 Q 34 [(0, vR (some x0)), (1, vI q.2)] [] q.1)) (fun q z hq => ?_) _ _ hf hK
  intro hK
  obtain ⟨w, hw, hm⟩ := hq
  refine tb_X9_init_34 X2 hr hin _ _ _ w hw ?_
  cases w with
  | inl a => exact hm hK
  | inr b => cases hm; exact hK
set_option maxHeartbeats 4000000 in
set_option maxRecDepth 100000 in
theorem t_X9_init_0 (X2 : gX p s m args meth c D cy B (gSt2 Z B H0) RX9 cX9_init wsX9_init 2) (hr : meth.sig.returnType = none) (hin : meth.name = "<init>") {Q : State → Prop} : ∀ (M : gMem) (x0 : Nat) (z : Unit × gMem), b_X9_init_0 Z M x0 = some z → (fun (r : Unit × gMem) => Q = gMQ below D cy B H0 args s 3 1200 none r.2) z → gGo p l e rX9_init s m args below meth c D cy B H0 2 0 0 Q 0 [(0, vR (some x0))] [] M := by
  intro M x0 z hf hK
  unfold b_X9_init_0 at hf
  have X := gX_w X2
  refine g_aload_n X dX9_init_0 rfl rfl ?_
  refine g_objInit (i9 := 0) (b := x0) X k_X9_init_oi1 k_X9_init_oi2 k_X9_init_oi3 rfl dX9_init_1 (Nat.le_of_ble_eq_true rfl) (Nat.le_of_ble_eq_true rfl) ?_
  refine g_aload_n X dX9_init_4 rfl rfl ?_
  refine g_sipush (v := (400 : Int32)) X dX9_init_5 (by decide) ?_
  refine g_anewa (t0 := 7) X (gN2w X2 _ (by decide +kernel)) k_X9_init_cl9 (by decide) rfl (by decide) (by decide) ⟨by decide, by decide⟩ dX9_init_8 ?_
  obtain ⟨M9, hM9, hf⟩ := lw_e hf
  rw [← hM9]
  obtain ⟨hT10, hf⟩ := ck_e hf
  refine g_putR (ci := 7) 1 X cdX9 i_X9_init_X9 (by decide) k_X9_init_f11 rfl dX9_init_11 rfl hT10 (Or.inr ⟨rfl, hin, rfl⟩) (gnA _ _) (gfA _ _) rfl ?_
  obtain ⟨M11, hM11, hf⟩ := lw_e hf
  rw [← hM11]
  have hT12 : mT M11 x0 = 8 := by rw [hM11]; exact hT10
  refine g_aload_n X dX9_init_14 rfl rfl ?_
  refine g_sipush (v := (400 : Int32)) X dX9_init_15 (by decide) ?_
  refine g_newa (at' := .int) (t0 := 0) X k_X9_init_acint (by exact Or.inl ⟨rfl, rfl⟩) (by decide) (by decide) ⟨(by decide), (by decide)⟩ dX9_init_18 ?_
  obtain ⟨M13, hM13, hf⟩ := lw_e hf
  rw [← hM13]
  obtain ⟨hT14, hf⟩ := ck_e hf
  refine g_putR (ci := 7) 2 X cdX9 i_X9_init_X9 (by decide) k_X9_init_f17 rfl dX9_init_20 rfl hT14 (Or.inr ⟨rfl, hin, rfl⟩) (gnA _ _) (gfA _ _) rfl ?_
  obtain ⟨M15, hM15, hf⟩ := lw_e hf
  rw [← hM15]
  have hT16 : mT M15 x0 = 8 := by rw [hM15]; exact hT14
  refine g_aload_n X dX9_init_23 rfl rfl ?_
  refine g_sipush (v := (400 : Int32)) X dX9_init_24 (by decide) ?_
  refine g_newa (at' := .int) (t0 := 0) X k_X9_init_acint (by exact Or.inl ⟨rfl, rfl⟩) (by decide) (by decide) ⟨(by decide), (by decide)⟩ dX9_init_27 ?_
  obtain ⟨M17, hM17, hf⟩ := lw_e hf
  rw [← hM17]
  obtain ⟨hT18, hf⟩ := ck_e hf
  refine g_putR (ci := 7) 3 X cdX9 i_X9_init_X9 (by decide) k_X9_init_f21 rfl dX9_init_29 rfl hT18 (Or.inr ⟨rfl, hin, rfl⟩) (gnA _ _) (gfA _ _) rfl ?_
  obtain ⟨M19, hM19, hf⟩ := lw_e hf
  rw [← hM19]
  have hT20 : mT M19 x0 = 8 := by rw [hM19]; exact hT18
  refine g_iconst (v := (0 : Int32)) X dX9_init_32 (by decide) ?_
  refine g_istore_n (lv' := [(1, vI (0 : Int32)), (0, vR (some x0))]) X dX9_init_33 rfl (by decide) rfl ?_
  refine g_sub (lvsub_of _ _ [1, 0] rfl) ?_
  exact tl_X9_init_34 X2 hr hin _ _ _ _ hf hK
set_option maxHeartbeats 4000000 in
set_option maxRecDepth 100000 in
theorem m_X9_init (l : Launch) {D : va_G} {cy : Nat → ClassId} {B : Nat} {H0 : Heap} {Z : Nat → Nat} {M M1 : gMem} {x0 : Nat} {r : Unit} (hf : f_X9_init Z M x0 = some (r, M1)) : Met l yX9_init wsX9_init rX9_init (va_Pc (Value.ref x0 :: List.map gv []) (gPre D cy B H0 (gSt2 Z B H0) M)) (gQ D cy B H0 none M1) 3 1200 (gA B) := by
  refine Met.ofW (cc := cX9_init) (maxL := 2) (ret := none) (by decide) rfl ?_
  intro p e s m args below meth c s₁ Bd hml hv
  obtain ⟨rfl, hW, hKK, hFs⟩ := hv
  have X2 : gX p s m _ meth c D cy B (gSt2 Z B H0) RX9 cX9_init wsX9_init 2 := ⟨Bd.exec, Bd.bytes, atoms_spec (ws := wsX9_init) Bd.pre, findClass_of_methodNamed Bd.named, hml, hKK, by rw [hW.1]; exact hW.2.1, Bd.notSynchronized, hFs⟩
  have hr := Bd.returns
  have hin : meth.name = "<init>" := (name_of_methodNamed Bd.named Bd.method).1
  have hl := lv_entry ([.ref x0]) (n := 2) (Nat.le_of_ble_eq_true rfl)
  show W p l e rX9_init s m _ below meth c s.heap [] 0 0 _ (entryFrame m ([.ref x0] : List Value).toArray 2)
  rw [lg_entry_eq]
  generalize (lg_sl ([.ref x0]) ++ List.replicate (2 - (lg_sl ([.ref x0])).length) Slot.unset).toArray = ls at hl ⊢
  have hl : lv_has ls 2 (List.map gq [(0, vR (some x0))]) := hl
  exact t_X9_init_0 X2 hr hin _ _ _ hf rfl s.heap [] ls hW va_S.rf (lv_has_sub hl (lvsub_of _ _ [0] rfl))
/-! ## TideLots$Tape.<init>()V -/
theorem dX10_init_0 : decode cX10_init 0 = .ok (.aload_n 0, 1) := by decide +kernel
theorem dX10_init_1 : decode cX10_init 1 = .ok (.invokespecial 3, 3) := by decide +kernel
theorem dX10_init_4 : decode cX10_init 4 = .ok (.aload_n 0, 1) := by decide +kernel
theorem dX10_init_5 : decode cX10_init 5 = .ok (.sipush 2000, 3) := by decide +kernel
theorem dX10_init_8 : decode cX10_init 8 = .ok (.newarray .byte, 2) := by decide +kernel
theorem dX10_init_10 : decode cX10_init 10 = .ok (.putfield 9, 3) := by decide +kernel
theorem dX10_init_13 : decode cX10_init 13 = .ok (.aload_n 0, 1) := by decide +kernel
theorem dX10_init_14 : decode cX10_init 14 = .ok (.sipush 401, 3) := by decide +kernel
theorem dX10_init_17 : decode cX10_init 17 = .ok (.anewarray 15, 3) := by decide +kernel
theorem dX10_init_20 : decode cX10_init 20 = .ok (.putfield 17, 3) := by decide +kernel
theorem dX10_init_23 : decode cX10_init 23 = .ok (.aload_n 0, 1) := by decide +kernel
theorem dX10_init_24 : decode cX10_init 24 = .ok (.sipush 401, 3) := by decide +kernel
theorem dX10_init_27 : decode cX10_init 27 = .ok (.newarray .int, 2) := by decide +kernel
theorem dX10_init_29 : decode cX10_init 29 = .ok (.putfield 21, 3) := by decide +kernel
theorem dX10_init_32 : decode cX10_init 32 = .ok (.aload_n 0, 1) := by decide +kernel
theorem dX10_init_33 : decode cX10_init 33 = .ok (.sipush 401, 3) := by decide +kernel
theorem dX10_init_36 : decode cX10_init 36 = .ok (.newarray .long, 2) := by decide +kernel
theorem dX10_init_38 : decode cX10_init 38 = .ok (.putfield 25, 3) := by decide +kernel
theorem dX10_init_41 : decode cX10_init 41 = .ok (.iconst 0, 1) := by decide +kernel
theorem dX10_init_42 : decode cX10_init 42 = .ok (.istore_n 1, 1) := by decide +kernel
theorem dX10_init_43 : decode cX10_init 43 = .ok (.iload_n 1, 1) := by decide +kernel
theorem dX10_init_44 : decode cX10_init 44 = .ok (.aload_n 0, 1) := by decide +kernel
theorem dX10_init_45 : decode cX10_init 45 = .ok (.getfield 17, 3) := by decide +kernel
theorem dX10_init_48 : decode cX10_init 48 = .ok (.arraylength, 1) := by decide +kernel
theorem dX10_init_49 : decode cX10_init 49 = .ok (.if_icmp .ge 18, 3) := by decide +kernel
theorem dX10_init_52 : decode cX10_init 52 = .ok (.aload_n 0, 1) := by decide +kernel
theorem dX10_init_53 : decode cX10_init 53 = .ok (.getfield 17, 3) := by decide +kernel
theorem dX10_init_56 : decode cX10_init 56 = .ok (.iload_n 1, 1) := by decide +kernel
theorem dX10_init_57 : decode cX10_init 57 = .ok (.getstatic 29, 3) := by decide +kernel
theorem dX10_init_60 : decode cX10_init 60 = .ok (.aastore, 1) := by decide +kernel
theorem dX10_init_61 : decode cX10_init 61 = .ok (.iinc 1 1, 3) := by decide +kernel
theorem dX10_init_64 : decode cX10_init 64 = .ok (.goto (-21), 3) := by decide +kernel
theorem dX10_init_67 : decode cX10_init 67 = .ok (.return_, 1) := by decide +kernel
theorem k_X10_init_f17 : Cond.fieldLink RX10 17 "TideLots$Tape" "signs" "[LTideLots$Sign;" ∈ wsX10_init := by decide +kernel
theorem i_X10_init_X10 : ∀ w ∈ u_ws RX10 TX10 6, w ∈ wsX10_init := by decide +kernel
theorem k_X10_init_f29 : Cond.fieldLink RX10 29 "TideLots$Sign" "END" "LTideLots$Sign;" ∈ wsX10_init := by decide +kernel
theorem k_X10_init_oi1 : Cond.methodLink RX10 3 objectInit ∈ wsX10_init := by decide +kernel
theorem k_X10_init_oi2 : Cond.instanceMethod objectInit ∈ wsX10_init := by decide +kernel
theorem k_X10_init_oi3 : Cond.code objectInit ⟨#[0xb1]⟩ 1 none ∈ wsX10_init := by decide +kernel
theorem k_X10_init_acbyte : Cond.arrayClass .byte ∈ wsX10_init := by decide +kernel
theorem k_X10_init_f9 : Cond.fieldLink RX10 9 "TideLots$Tape" "bytes" "[B" ∈ wsX10_init := by decide +kernel
theorem k_X10_init_cl15 : Cond.classLink RX10 15 RX8 ∈ wsX10_init := by decide +kernel
theorem k_X10_init_acint : Cond.arrayClass .int ∈ wsX10_init := by decide +kernel
theorem k_X10_init_f21 : Cond.fieldLink RX10 21 "TideLots$Tape" "starts" "[I" ∈ wsX10_init := by decide +kernel
theorem k_X10_init_aclong : Cond.arrayClass .long ∈ wsX10_init := by decide +kernel
theorem k_X10_init_f25 : Cond.fieldLink RX10 25 "TideLots$Tape" "values" "[J" ∈ wsX10_init := by decide +kernel
abbrev rX10_init : Room := { frames := 1, cells := 4, slots := 3203, locals := 12 }
noncomputable def bb_X10_init_43 (Z : Nat → Nat) (M : gMem) (x0 : Nat) (x1 : Int32) : Option ((gMem × Int32) ⊕ (Unit × gMem)) :=
  ck (mT M x0 = 9) <| dr ((mR M x0 2)) fun a2 => ck (mT M a2 = 27) <| (if (Int32.ofNat (mL M a2)) ≤ x1 then oI (some ((), M)) else ck (inb x1 (mL M a2)) <| lw (wR M a2 x1.toNatClampNeg ((some (Z 42)))) fun M6 => some (.inl (M6, (x1 + (1 : Int32)))))
noncomputable def lp_X10_init_43 (Z : Nat → Nat) (M : gMem) (x0 : Nat) (x1 : Int32) : Option (Unit × gMem) :=
  lp (fun (q : gMem × Int32) => bb_X10_init_43 Z q.1 x0 q.2) (M, x1)
noncomputable def b_X10_init_0 (Z : Nat → Nat) (M : gMem) (x0 : Nat) : Option (Unit × gMem) :=
  lw (nW M 22 ((2000 : Int32)).toNatClampNeg) fun M9 => ck (mT M9 x0 = 9) <| lw (wR M9 x0 1 ((some (mN M)))) fun M11 => lw (nW M11 27 ((401 : Int32)).toNatClampNeg) fun M13 => ck (mT M13 x0 = 9) <| lw (wR M13 x0 2 ((some (mN M11)))) fun M15 => lw (nW M15 20 ((401 : Int32)).toNatClampNeg) fun M17 => ck (mT M17 x0 = 9) <| lw (wR M17 x0 3 ((some (mN M15)))) fun M19 => lw (nW M19 21 ((401 : Int32)).toNatClampNeg) fun M21 => ck (mT M21 x0 = 9) <| lw (wR M21 x0 4 ((some (mN M19)))) fun M23 => lp_X10_init_43 Z M23 x0 ((0 : Int32))
noncomputable def f_X10_init (Z : Nat → Nat) (M : gMem) (x0 : Nat) : Option (Unit × gMem) :=
  b_X10_init_0 Z M x0
set_option maxHeartbeats 4000000 in
set_option maxRecDepth 100000 in
theorem tb_X10_init_43 (X2 : gX p s m args meth c D cy B (gSt2 Z B H0) RX10 cX10_init wsX10_init 2) (hr : meth.sig.returnType = none) (hin : meth.name = "<init>") {Q : State → Prop} : ∀ (M : gMem) (x0 : Nat) (x1 : Int32) (z : (gMem × Int32) ⊕ (Unit × gMem)), bb_X10_init_43 Z M x0 x1 = some z → (Sum.elim (fun (q : gMem × Int32) => gGo p l e rX10_init s m args below meth c D cy B H0 2 4 3203 Q 43 [(0, vR (some x0)), (1, vI q.2)] [] q.1) (fun (r : Unit × gMem) => Q = gMQ below D cy B H0 args s 4 3203 none r.2)) z → gGo p l e rX10_init s m args below meth c D cy B H0 2 4 3203 Q 43 [(0, vR (some x0)), (1, vI x1)] [] M := by
  intro M x0 x1 z hf hK
  unfold bb_X10_init_43 at hf
  have X := gX_w X2
  refine g_iload_n X dX10_init_43 rfl rfl ?_
  refine g_aload_n X dX10_init_44 rfl rfl ?_
  obtain ⟨hT1, hf⟩ := ck_e hf
  refine g_get (ci := 8) (v := vR (mR M x0 2)) 2 X cdX10 i_X10_init_X10 (by decide) k_X10_init_f17 rfl dX10_init_45 rfl hT1 rfl ?_
  obtain ⟨a2, ha2, hf⟩ := dr_e hf
  obtain ⟨hT3, hf⟩ := ck_e hf
  refine g_alen (t0 := 7) X dX10_init_48 ha2 hT3 (by decide) rfl ?_
  refine g_icmp_ge (tgt := 67) X dX10_init_49 (by decide) (fun hc => ?_) (fun hc => ?_)
  · have hf := ife_t hc hf
    obtain ⟨w4, hw4, hz4⟩ := oI_e hf
    subst hz4
    have hf := hw4
    cases hf
    refine g_eqQ hK ?_
    exact g_vret X hr dX10_init_67
  · have hf := ife_f hc hf
    refine g_aload_n X dX10_init_52 rfl rfl ?_
    refine g_get (ci := 8) (v := vR (mR M x0 2)) 2 X cdX10 i_X10_init_X10 (by decide) k_X10_init_f17 rfl dX10_init_53 rfl hT1 rfl ?_
    refine g_iload_n X dX10_init_56 rfl rfl ?_
    refine g_gets (w := vR (some (Z 42))) X (gSt_E X 42 (by decide)) k_X10_init_f29 rfl dX10_init_57 ?_
    obtain ⟨hg5, hf⟩ := ck_e hf
    refine g_aastE X dX10_init_60 ha2 hT3 hg5 rfl (by decide) ?_
    obtain ⟨M6, hM6, hf⟩ := lw_e hf
    rw [← hM6]
    have hT7 : mT M6 x0 = 9 := by rw [hM6]; exact hT1
    have hT8 : mT M6 a2 = 27 := by rw [hM6]; exact hT3
    refine g_iinc (v := (1 : Int32)) (lv' := [(1, vI (x1 + (1 : Int32))), (0, vR (some x0))]) X dX10_init_61 rfl (by decide) (by decide) rfl ?_
    refine g_goto (tgt := 43) X dX10_init_64 (by decide) ?_
    cases hf
    refine g_sub (lvsub_of _ _ [1, 0] rfl) ?_
    exact hK
set_option maxHeartbeats 4000000 in
set_option maxRecDepth 100000 in
theorem tl_X10_init_43 (X2 : gX p s m args meth c D cy B (gSt2 Z B H0) RX10 cX10_init wsX10_init 2) (hr : meth.sig.returnType = none) (hin : meth.name = "<init>") {Q : State → Prop} : ∀ (M : gMem) (x0 : Nat) (x1 : Int32) (z : Unit × gMem), lp_X10_init_43 Z M x0 x1 = some z → (fun (r : Unit × gMem) => Q = gMQ below D cy B H0 args s 4 3203 none r.2) z → gGo p l e rX10_init s m args below meth c D cy B H0 2 4 3203 Q 43 [(0, vR (some x0)), (1, vI x1)] [] M := by
  intro M x0 x1 z hf hK
  refine lp_ind (P := (fun (q : gMem × Int32) (z : Unit × gMem) => (fun (r : Unit × gMem) => Q = gMQ below D cy B H0 args s 4 3203 none r.2) z → gGo p l e rX10_init s m args below meth c D cy B H0 2 4 3203 Q 43 [(0, vR (some x0)), (1, vI q.2)] [] q.1)) (fun q z hq => ?_) _ _ hf hK
  intro hK
  obtain ⟨w, hw, hm⟩ := hq
  refine tb_X10_init_43 X2 hr hin _ _ _ w hw ?_
  cases w with
  | inl a => exact hm hK
  | inr b => cases hm; exact hK
set_option maxHeartbeats 4000000 in
set_option maxRecDepth 100000 in
theorem t_X10_init_0 (X2 : gX p s m args meth c D cy B (gSt2 Z B H0) RX10 cX10_init wsX10_init 2) (hr : meth.sig.returnType = none) (hin : meth.name = "<init>") {Q : State → Prop} : ∀ (M : gMem) (x0 : Nat) (z : Unit × gMem), b_X10_init_0 Z M x0 = some z → (fun (r : Unit × gMem) => Q = gMQ below D cy B H0 args s 4 3203 none r.2) z → gGo p l e rX10_init s m args below meth c D cy B H0 2 0 0 Q 0 [(0, vR (some x0))] [] M := by
  intro M x0 z hf hK
  unfold b_X10_init_0 at hf
  have X := gX_w X2
  refine g_aload_n X dX10_init_0 rfl rfl ?_
  refine g_objInit (i9 := 0) (b := x0) X k_X10_init_oi1 k_X10_init_oi2 k_X10_init_oi3 rfl dX10_init_1 (Nat.le_of_ble_eq_true rfl) (Nat.le_of_ble_eq_true rfl) ?_
  refine g_aload_n X dX10_init_4 rfl rfl ?_
  refine g_sipush (v := (2000 : Int32)) X dX10_init_5 (by decide) ?_
  refine g_newa (at' := .byte) (t0 := 0) X k_X10_init_acbyte (by exact Or.inr (Or.inr (Or.inl ⟨rfl, rfl⟩))) (by decide) (by decide) ⟨(by decide), (by decide)⟩ dX10_init_8 ?_
  obtain ⟨M9, hM9, hf⟩ := lw_e hf
  rw [← hM9]
  obtain ⟨hT10, hf⟩ := ck_e hf
  refine g_putR (ci := 8) 1 X cdX10 i_X10_init_X10 (by decide) k_X10_init_f9 rfl dX10_init_10 rfl hT10 (Or.inr ⟨rfl, hin, rfl⟩) (gnA _ _) (gfA _ _) rfl ?_
  obtain ⟨M11, hM11, hf⟩ := lw_e hf
  rw [← hM11]
  have hT12 : mT M11 x0 = 9 := by rw [hM11]; exact hT10
  refine g_aload_n X dX10_init_13 rfl rfl ?_
  refine g_sipush (v := (401 : Int32)) X dX10_init_14 (by decide) ?_
  refine g_anewa (t0 := 7) X (gN2w X2 _ (by decide +kernel)) k_X10_init_cl15 (by decide) rfl (by decide) (by decide) ⟨by decide, by decide⟩ dX10_init_17 ?_
  obtain ⟨M13, hM13, hf⟩ := lw_e hf
  rw [← hM13]
  obtain ⟨hT14, hf⟩ := ck_e hf
  refine g_putR (ci := 8) 2 X cdX10 i_X10_init_X10 (by decide) k_X10_init_f17 rfl dX10_init_20 rfl hT14 (Or.inr ⟨rfl, hin, rfl⟩) (gnA _ _) (gfA _ _) rfl ?_
  obtain ⟨M15, hM15, hf⟩ := lw_e hf
  rw [← hM15]
  have hT16 : mT M15 x0 = 9 := by rw [hM15]; exact hT14
  refine g_aload_n X dX10_init_23 rfl rfl ?_
  refine g_sipush (v := (401 : Int32)) X dX10_init_24 (by decide) ?_
  refine g_newa (at' := .int) (t0 := 0) X k_X10_init_acint (by exact Or.inl ⟨rfl, rfl⟩) (by decide) (by decide) ⟨(by decide), (by decide)⟩ dX10_init_27 ?_
  obtain ⟨M17, hM17, hf⟩ := lw_e hf
  rw [← hM17]
  obtain ⟨hT18, hf⟩ := ck_e hf
  refine g_putR (ci := 8) 3 X cdX10 i_X10_init_X10 (by decide) k_X10_init_f21 rfl dX10_init_29 rfl hT18 (Or.inr ⟨rfl, hin, rfl⟩) (gnA _ _) (gfA _ _) rfl ?_
  obtain ⟨M19, hM19, hf⟩ := lw_e hf
  rw [← hM19]
  have hT20 : mT M19 x0 = 9 := by rw [hM19]; exact hT18
  refine g_aload_n X dX10_init_32 rfl rfl ?_
  refine g_sipush (v := (401 : Int32)) X dX10_init_33 (by decide) ?_
  refine g_newa (at' := .long) (t0 := 0) X k_X10_init_aclong (by exact Or.inr (Or.inl ⟨rfl, rfl⟩)) (by decide) (by decide) ⟨(by decide), (by decide)⟩ dX10_init_36 ?_
  obtain ⟨M21, hM21, hf⟩ := lw_e hf
  rw [← hM21]
  obtain ⟨hT22, hf⟩ := ck_e hf
  refine g_putR (ci := 8) 4 X cdX10 i_X10_init_X10 (by decide) k_X10_init_f25 rfl dX10_init_38 rfl hT22 (Or.inr ⟨rfl, hin, rfl⟩) (gnA _ _) (gfA _ _) rfl ?_
  obtain ⟨M23, hM23, hf⟩ := lw_e hf
  rw [← hM23]
  have hT24 : mT M23 x0 = 9 := by rw [hM23]; exact hT22
  refine g_iconst (v := (0 : Int32)) X dX10_init_41 (by decide) ?_
  refine g_istore_n (lv' := [(1, vI (0 : Int32)), (0, vR (some x0))]) X dX10_init_42 rfl (by decide) rfl ?_
  refine g_sub (lvsub_of _ _ [1, 0] rfl) ?_
  exact tl_X10_init_43 X2 hr hin _ _ _ _ hf hK
set_option maxHeartbeats 4000000 in
set_option maxRecDepth 100000 in
theorem m_X10_init (l : Launch) {D : va_G} {cy : Nat → ClassId} {B : Nat} {H0 : Heap} {Z : Nat → Nat} {M M1 : gMem} {x0 : Nat} {r : Unit} (hf : f_X10_init Z M x0 = some (r, M1)) : Met l yX10_init wsX10_init rX10_init (va_Pc (Value.ref x0 :: List.map gv []) (gPre D cy B H0 (gSt2 Z B H0) M)) (gQ D cy B H0 none M1) 4 3203 (gA B) := by
  refine Met.ofW (cc := cX10_init) (maxL := 2) (ret := none) (by decide) rfl ?_
  intro p e s m args below meth c s₁ Bd hml hv
  obtain ⟨rfl, hW, hKK, hFs⟩ := hv
  have X2 : gX p s m _ meth c D cy B (gSt2 Z B H0) RX10 cX10_init wsX10_init 2 := ⟨Bd.exec, Bd.bytes, atoms_spec (ws := wsX10_init) Bd.pre, findClass_of_methodNamed Bd.named, hml, hKK, by rw [hW.1]; exact hW.2.1, Bd.notSynchronized, hFs⟩
  have hr := Bd.returns
  have hin : meth.name = "<init>" := (name_of_methodNamed Bd.named Bd.method).1
  have hl := lv_entry ([.ref x0]) (n := 2) (Nat.le_of_ble_eq_true rfl)
  show W p l e rX10_init s m _ below meth c s.heap [] 0 0 _ (entryFrame m ([.ref x0] : List Value).toArray 2)
  rw [lg_entry_eq]
  generalize (lg_sl ([.ref x0]) ++ List.replicate (2 - (lg_sl ([.ref x0])).length) Slot.unset).toArray = ls at hl ⊢
  have hl : lv_has ls 2 (List.map gq [(0, vR (some x0))]) := hl
  exact t_X10_init_0 X2 hr hin _ _ _ hf rfl s.heap [] ls hW va_S.rf (lv_has_sub hl (lvsub_of _ _ [0] rfl))
end
