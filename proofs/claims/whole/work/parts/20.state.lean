section
variable {p : Program} {l : Launch} {e : Env} {s : State} {m : MethodId} {args : Array Value} {below : List Frame} {meth : Method} {c : Code} {D : va_G} {cy : Nat → ClassId} {B : Nat} {H0 : Heap} {Z : Nat → Nat}
/-! ## TideLotsModel$State.copy([I[I)V -/
theorem dX12_copy_0 : decode cX12_copy 0 = .ok (.aload_n 1, 1) := by decide +kernel
theorem dX12_copy_1 : decode cX12_copy 1 = .ok (.iconst 0, 1) := by decide +kernel
theorem dX12_copy_2 : decode cX12_copy 2 = .ok (.aload_n 2, 1) := by decide +kernel
theorem dX12_copy_3 : decode cX12_copy 3 = .ok (.iconst 0, 1) := by decide +kernel
theorem dX12_copy_4 : decode cX12_copy 4 = .ok (.aload_n 1, 1) := by decide +kernel
theorem dX12_copy_5 : decode cX12_copy 5 = .ok (.arraylength, 1) := by decide +kernel
theorem dX12_copy_6 : decode cX12_copy 6 = .ok (.invokestatic 68, 3) := by decide +kernel
theorem dX12_copy_9 : decode cX12_copy 9 = .ok (.return_, 1) := by decide +kernel
theorem k_X12_copy_ac68 : Cond.methodLink RX12 68 arraycopyName ∈ wsX12_copy := by decide +kernel
theorem k_X12_copy_acn : Cond.native arraycopyName ∈ wsX12_copy := by decide +kernel
theorem k_X12_copy_acs : Cond.static arraycopyName ∈ wsX12_copy := by decide +kernel
theorem k_X12_copy_aci : Cond.initialized "java/lang/System" ∈ wsX12_copy := by decide +kernel
abbrev rX12_copy : Room := { frames := 1, cells := 0, slots := 0, locals := 60 }
noncomputable def b_X12_copy_0 (M : gMem) (x1 : Option Nat) (x2 : Option Nat) : Option (Unit × gMem) :=
  dr x1 fun a1 => ck (mT M a1 = 20) <| dr x2 fun a3 => ck (mT M a3 = 20) <| ck (¬ (Int32.ofNat (mL M a1)) < 0) <| ck (((0 : Int32)).toNatClampNeg + ((Int32.ofNat (mL M a1))).toNatClampNeg ≤ mL M a1) <| ck (((0 : Int32)).toNatClampNeg + ((Int32.ofNat (mL M a1))).toNatClampNeg ≤ mL M a3) <| lw (cpI M a1 ((0 : Int32)).toNatClampNeg a3 ((0 : Int32)).toNatClampNeg ((Int32.ofNat (mL M a1))).toNatClampNeg) fun M8 => some ((), M8)
noncomputable def f_X12_copy (M : gMem) (x0 : Nat) (x1 : Option Nat) (x2 : Option Nat) : Option (Unit × gMem) :=
  b_X12_copy_0 M x1 x2
set_option maxHeartbeats 4000000 in
set_option maxRecDepth 100000 in
theorem t_X12_copy_0 (X : gX p s m args meth c D cy B (gSt Z B H0) RX12 cX12_copy wsX12_copy 3) (hr : meth.sig.returnType = none) {Q : State → Prop} : ∀ (M : gMem) (x1 : Option Nat) (x2 : Option Nat) (z : Unit × gMem), b_X12_copy_0 M x1 x2 = some z → (fun (r : Unit × gMem) => Q = gMQ below D cy B H0 args s 0 0 none r.2) z → gGo p l e rX12_copy s m args below meth c D cy B H0 3 0 0 Q 0 [(1, vR x1), (2, vR x2)] [] M := by
  intro M x1 x2 z hf hK
  unfold b_X12_copy_0 at hf
  refine g_aload_n X dX12_copy_0 rfl rfl ?_
  refine g_iconst (v := (0 : Int32)) X dX12_copy_1 (by decide) ?_
  refine g_aload_n X dX12_copy_2 rfl rfl ?_
  refine g_iconst (v := (0 : Int32)) X dX12_copy_3 (by decide) ?_
  refine g_aload_n X dX12_copy_4 rfl rfl ?_
  obtain ⟨a1, ha1, hf⟩ := dr_e hf
  obtain ⟨hT2, hf⟩ := ck_e hf
  refine g_alen (t0 := 0) X dX12_copy_5 ha1 hT2 (by decide) rfl ?_
  obtain ⟨a3, ha3, hf⟩ := dr_e hf
  obtain ⟨hT4, hf⟩ := ck_e hf
  obtain ⟨hg5, hf⟩ := ck_e hf
  obtain ⟨hg6, hf⟩ := ck_e hf
  obtain ⟨hg7, hf⟩ := ck_e hf
  refine g_copy X k_X12_copy_ac68 k_X12_copy_acn k_X12_copy_acs k_X12_copy_aci ha1 ha3 hT2 hT4 (by decide) (by decide) hg5 hg6 hg7 (Nat.le_of_ble_eq_true rfl) (Nat.le_of_ble_eq_true rfl) dX12_copy_6 ?_
  obtain ⟨M8, hM8, hf⟩ := lw_e hf
  rw [← hM8]
  have hT9 : mT M8 a1 = 20 := by rw [hM8]; exact hT2
  have hT10 : mT M8 a3 = 20 := by rw [hM8]; exact hT4
  cases hf
  refine g_eqQ hK ?_
  exact g_vret X hr dX12_copy_9
set_option maxHeartbeats 4000000 in
set_option maxRecDepth 100000 in
theorem m_X12_copy (l : Launch) {D : va_G} {cy : Nat → ClassId} {B : Nat} {H0 : Heap} {Z : Nat → Nat} {M M1 : gMem} {x0 : Nat} {x1 : Option Nat} {x2 : Option Nat} {r : Unit} (hf : f_X12_copy M x0 x1 x2 = some (r, M1)) : Met l yX12_copy wsX12_copy rX12_copy (va_Pc (Value.ref x0 :: List.map gv [vR x1, vR x2]) (gPre D cy B H0 (gSt Z B H0) M)) (gQ D cy B H0 none M1) 0 0 (gA B) := by
  refine Met.ofW (cc := cX12_copy) (maxL := 3) (ret := none) (by decide) rfl ?_
  intro p e s m args below meth c s₁ Bd hml hv
  obtain ⟨rfl, hW, hKK, hFs⟩ := hv
  have X : gX p s m _ meth c D cy B (gSt Z B H0) RX12 cX12_copy wsX12_copy 3 := ⟨Bd.exec, Bd.bytes, atoms_spec (ws := wsX12_copy) Bd.pre, findClass_of_methodNamed Bd.named, hml, hKK, by rw [hW.1]; exact hW.2.1, Bd.notSynchronized, hFs⟩
  have hr := Bd.returns
  rcases x1 with _ | x1
  · rcases x2 with _ | x2
    · have hl := lv_entry ([.ref x0, .null, .null]) (n := 3) (Nat.le_of_ble_eq_true rfl)
      show W p l e rX12_copy s m _ below meth c s.heap [] 0 0 _ (entryFrame m ([.ref x0, .null, .null] : List Value).toArray 3)
      rw [lg_entry_eq]
      generalize (lg_sl ([.ref x0, .null, .null]) ++ List.replicate (3 - (lg_sl ([.ref x0, .null, .null])).length) Slot.unset).toArray = ls at hl ⊢
      have hl : lv_has ls 3 (List.map gq [(0, vR (some x0)), (1, vR none), (2, vR none)]) := hl
      exact t_X12_copy_0 X hr _ _ _ _ hf rfl s.heap [] ls hW va_S.rf (lv_has_sub hl (lvsub_of _ _ [1, 2] rfl))
    · have hl := lv_entry ([.ref x0, .null, .ref x2]) (n := 3) (Nat.le_of_ble_eq_true rfl)
      show W p l e rX12_copy s m _ below meth c s.heap [] 0 0 _ (entryFrame m ([.ref x0, .null, .ref x2] : List Value).toArray 3)
      rw [lg_entry_eq]
      generalize (lg_sl ([.ref x0, .null, .ref x2]) ++ List.replicate (3 - (lg_sl ([.ref x0, .null, .ref x2])).length) Slot.unset).toArray = ls at hl ⊢
      have hl : lv_has ls 3 (List.map gq [(0, vR (some x0)), (1, vR none), (2, vR (some x2))]) := hl
      exact t_X12_copy_0 X hr _ _ _ _ hf rfl s.heap [] ls hW va_S.rf (lv_has_sub hl (lvsub_of _ _ [1, 2] rfl))
  · rcases x2 with _ | x2
    · have hl := lv_entry ([.ref x0, .ref x1, .null]) (n := 3) (Nat.le_of_ble_eq_true rfl)
      show W p l e rX12_copy s m _ below meth c s.heap [] 0 0 _ (entryFrame m ([.ref x0, .ref x1, .null] : List Value).toArray 3)
      rw [lg_entry_eq]
      generalize (lg_sl ([.ref x0, .ref x1, .null]) ++ List.replicate (3 - (lg_sl ([.ref x0, .ref x1, .null])).length) Slot.unset).toArray = ls at hl ⊢
      have hl : lv_has ls 3 (List.map gq [(0, vR (some x0)), (1, vR (some x1)), (2, vR none)]) := hl
      exact t_X12_copy_0 X hr _ _ _ _ hf rfl s.heap [] ls hW va_S.rf (lv_has_sub hl (lvsub_of _ _ [1, 2] rfl))
    · have hl := lv_entry ([.ref x0, .ref x1, .ref x2]) (n := 3) (Nat.le_of_ble_eq_true rfl)
      show W p l e rX12_copy s m _ below meth c s.heap [] 0 0 _ (entryFrame m ([.ref x0, .ref x1, .ref x2] : List Value).toArray 3)
      rw [lg_entry_eq]
      generalize (lg_sl ([.ref x0, .ref x1, .ref x2]) ++ List.replicate (3 - (lg_sl ([.ref x0, .ref x1, .ref x2])).length) Slot.unset).toArray = ls at hl ⊢
      have hl : lv_has ls 3 (List.map gq [(0, vR (some x0)), (1, vR (some x1)), (2, vR (some x2))]) := hl
      exact t_X12_copy_0 X hr _ _ _ _ hf rfl s.heap [] ls hW va_S.rf (lv_has_sub hl (lvsub_of _ _ [1, 2] rfl))
/-! ## TideLotsModel$State.become(LTideLotsModel$State;)V -/
theorem dX12_become_0 : decode cX12_become 0 = .ok (.aload_n 0, 1) := by decide +kernel
theorem dX12_become_1 : decode cX12_become 1 = .ok (.aload_n 1, 1) := by decide +kernel
theorem dX12_become_2 : decode cX12_become 2 = .ok (.getfield 74, 3) := by decide +kernel
theorem dX12_become_5 : decode cX12_become 5 = .ok (.putfield 74, 3) := by decide +kernel
theorem dX12_become_8 : decode cX12_become 8 = .ok (.aload_n 0, 1) := by decide +kernel
theorem dX12_become_9 : decode cX12_become 9 = .ok (.aload_n 1, 1) := by decide +kernel
theorem dX12_become_10 : decode cX12_become 10 = .ok (.getfield 15, 3) := by decide +kernel
theorem dX12_become_13 : decode cX12_become 13 = .ok (.putfield 15, 3) := by decide +kernel
theorem dX12_become_16 : decode cX12_become 16 = .ok (.aload_n 0, 1) := by decide +kernel
theorem dX12_become_17 : decode cX12_become 17 = .ok (.aload_n 1, 1) := by decide +kernel
theorem dX12_become_18 : decode cX12_become 18 = .ok (.getfield 19, 3) := by decide +kernel
theorem dX12_become_21 : decode cX12_become 21 = .ok (.aload_n 0, 1) := by decide +kernel
theorem dX12_become_22 : decode cX12_become 22 = .ok (.getfield 19, 3) := by decide +kernel
theorem dX12_become_25 : decode cX12_become 25 = .ok (.invokevirtual 77, 3) := by decide +kernel
theorem dX12_become_28 : decode cX12_become 28 = .ok (.aload_n 0, 1) := by decide +kernel
theorem dX12_become_29 : decode cX12_become 29 = .ok (.aload_n 1, 1) := by decide +kernel
theorem dX12_become_30 : decode cX12_become 30 = .ok (.getfield 23, 3) := by decide +kernel
theorem dX12_become_33 : decode cX12_become 33 = .ok (.aload_n 0, 1) := by decide +kernel
theorem dX12_become_34 : decode cX12_become 34 = .ok (.getfield 23, 3) := by decide +kernel
theorem dX12_become_37 : decode cX12_become 37 = .ok (.invokevirtual 77, 3) := by decide +kernel
theorem dX12_become_40 : decode cX12_become 40 = .ok (.aload_n 0, 1) := by decide +kernel
theorem dX12_become_41 : decode cX12_become 41 = .ok (.aload_n 1, 1) := by decide +kernel
theorem dX12_become_42 : decode cX12_become 42 = .ok (.getfield 26, 3) := by decide +kernel
theorem dX12_become_45 : decode cX12_become 45 = .ok (.aload_n 0, 1) := by decide +kernel
theorem dX12_become_46 : decode cX12_become 46 = .ok (.getfield 26, 3) := by decide +kernel
theorem dX12_become_49 : decode cX12_become 49 = .ok (.invokevirtual 77, 3) := by decide +kernel
theorem dX12_become_52 : decode cX12_become 52 = .ok (.aload_n 0, 1) := by decide +kernel
theorem dX12_become_53 : decode cX12_become 53 = .ok (.aload_n 1, 1) := by decide +kernel
theorem dX12_become_54 : decode cX12_become 54 = .ok (.getfield 29, 3) := by decide +kernel
theorem dX12_become_57 : decode cX12_become 57 = .ok (.aload_n 0, 1) := by decide +kernel
theorem dX12_become_58 : decode cX12_become 58 = .ok (.getfield 29, 3) := by decide +kernel
theorem dX12_become_61 : decode cX12_become 61 = .ok (.invokevirtual 77, 3) := by decide +kernel
theorem dX12_become_64 : decode cX12_become 64 = .ok (.aload_n 0, 1) := by decide +kernel
theorem dX12_become_65 : decode cX12_become 65 = .ok (.aload_n 1, 1) := by decide +kernel
theorem dX12_become_66 : decode cX12_become 66 = .ok (.getfield 32, 3) := by decide +kernel
theorem dX12_become_69 : decode cX12_become 69 = .ok (.aload_n 0, 1) := by decide +kernel
theorem dX12_become_70 : decode cX12_become 70 = .ok (.getfield 32, 3) := by decide +kernel
theorem dX12_become_73 : decode cX12_become 73 = .ok (.invokevirtual 77, 3) := by decide +kernel
theorem dX12_become_76 : decode cX12_become 76 = .ok (.aload_n 0, 1) := by decide +kernel
theorem dX12_become_77 : decode cX12_become 77 = .ok (.aload_n 1, 1) := by decide +kernel
theorem dX12_become_78 : decode cX12_become 78 = .ok (.getfield 35, 3) := by decide +kernel
theorem dX12_become_81 : decode cX12_become 81 = .ok (.aload_n 0, 1) := by decide +kernel
theorem dX12_become_82 : decode cX12_become 82 = .ok (.getfield 35, 3) := by decide +kernel
theorem dX12_become_85 : decode cX12_become 85 = .ok (.invokevirtual 77, 3) := by decide +kernel
theorem dX12_become_88 : decode cX12_become 88 = .ok (.aload_n 0, 1) := by decide +kernel
theorem dX12_become_89 : decode cX12_become 89 = .ok (.aload_n 1, 1) := by decide +kernel
theorem dX12_become_90 : decode cX12_become 90 = .ok (.getfield 38, 3) := by decide +kernel
theorem dX12_become_93 : decode cX12_become 93 = .ok (.aload_n 0, 1) := by decide +kernel
theorem dX12_become_94 : decode cX12_become 94 = .ok (.getfield 38, 3) := by decide +kernel
theorem dX12_become_97 : decode cX12_become 97 = .ok (.invokevirtual 77, 3) := by decide +kernel
theorem dX12_become_100 : decode cX12_become 100 = .ok (.aload_n 0, 1) := by decide +kernel
theorem dX12_become_101 : decode cX12_become 101 = .ok (.aload_n 1, 1) := by decide +kernel
theorem dX12_become_102 : decode cX12_become 102 = .ok (.getfield 41, 3) := by decide +kernel
theorem dX12_become_105 : decode cX12_become 105 = .ok (.aload_n 0, 1) := by decide +kernel
theorem dX12_become_106 : decode cX12_become 106 = .ok (.getfield 41, 3) := by decide +kernel
theorem dX12_become_109 : decode cX12_become 109 = .ok (.invokevirtual 77, 3) := by decide +kernel
theorem dX12_become_112 : decode cX12_become 112 = .ok (.aload_n 0, 1) := by decide +kernel
theorem dX12_become_113 : decode cX12_become 113 = .ok (.aload_n 1, 1) := by decide +kernel
theorem dX12_become_114 : decode cX12_become 114 = .ok (.getfield 44, 3) := by decide +kernel
theorem dX12_become_117 : decode cX12_become 117 = .ok (.aload_n 0, 1) := by decide +kernel
theorem dX12_become_118 : decode cX12_become 118 = .ok (.getfield 44, 3) := by decide +kernel
theorem dX12_become_121 : decode cX12_become 121 = .ok (.invokevirtual 77, 3) := by decide +kernel
theorem dX12_become_124 : decode cX12_become 124 = .ok (.aload_n 0, 1) := by decide +kernel
theorem dX12_become_125 : decode cX12_become 125 = .ok (.aload_n 1, 1) := by decide +kernel
theorem dX12_become_126 : decode cX12_become 126 = .ok (.getfield 47, 3) := by decide +kernel
theorem dX12_become_129 : decode cX12_become 129 = .ok (.aload_n 0, 1) := by decide +kernel
theorem dX12_become_130 : decode cX12_become 130 = .ok (.getfield 47, 3) := by decide +kernel
theorem dX12_become_133 : decode cX12_become 133 = .ok (.invokevirtual 77, 3) := by decide +kernel
theorem dX12_become_136 : decode cX12_become 136 = .ok (.aload_n 0, 1) := by decide +kernel
theorem dX12_become_137 : decode cX12_become 137 = .ok (.aload_n 1, 1) := by decide +kernel
theorem dX12_become_138 : decode cX12_become 138 = .ok (.getfield 50, 3) := by decide +kernel
theorem dX12_become_141 : decode cX12_become 141 = .ok (.aload_n 0, 1) := by decide +kernel
theorem dX12_become_142 : decode cX12_become 142 = .ok (.getfield 50, 3) := by decide +kernel
theorem dX12_become_145 : decode cX12_become 145 = .ok (.invokevirtual 77, 3) := by decide +kernel
theorem dX12_become_148 : decode cX12_become 148 = .ok (.aload_n 0, 1) := by decide +kernel
theorem dX12_become_149 : decode cX12_become 149 = .ok (.aload_n 1, 1) := by decide +kernel
theorem dX12_become_150 : decode cX12_become 150 = .ok (.getfield 53, 3) := by decide +kernel
theorem dX12_become_153 : decode cX12_become 153 = .ok (.aload_n 0, 1) := by decide +kernel
theorem dX12_become_154 : decode cX12_become 154 = .ok (.getfield 53, 3) := by decide +kernel
theorem dX12_become_157 : decode cX12_become 157 = .ok (.invokevirtual 77, 3) := by decide +kernel
theorem dX12_become_160 : decode cX12_become 160 = .ok (.return_, 1) := by decide +kernel
set_option maxRecDepth 20000 in
theorem ggX12_become_X12_copy : GoodIn wsX12_become wsX12_copy := goodIn_r _ [19, 20, 21, 22, 23] (by decide +kernel) (by decide +kernel)
set_option maxRecDepth 20000 in
theorem gX12_become_X12_copy : GoodIn wsX12_become (wsV RX12 77 RX12 yX12_copy wsX12_copy) := goodIn_app (goodIn_of _ (by decide +kernel)) ggX12_become_X12_copy
theorem k_X12_become_f74 : Cond.fieldLink RX12 74 "TideLotsModel$State" "tide" "I" ∈ wsX12_become := by decide +kernel
theorem i_X12_become_X12 : ∀ w ∈ u_ws RX12 TX12 19, w ∈ wsX12_become := by decide +kernel
theorem k_X12_become_f15 : Cond.fieldLink RX12 15 "TideLotsModel$State" "l" "I" ∈ wsX12_become := by decide +kernel
theorem k_X12_become_f19 : Cond.fieldLink RX12 19 "TideLotsModel$State" "fish" "[I" ∈ wsX12_become := by decide +kernel
theorem k_X12_become_f23 : Cond.fieldLink RX12 23 "TideLotsModel$State" "boats" "[I" ∈ wsX12_become := by decide +kernel
theorem k_X12_become_f26 : Cond.fieldLink RX12 26 "TideLotsModel$State" "took" "[I" ∈ wsX12_become := by decide +kernel
theorem k_X12_become_f29 : Cond.fieldLink RX12 29 "TideLotsModel$State" "mesh" "[I" ∈ wsX12_become := by decide +kernel
theorem k_X12_become_f32 : Cond.fieldLink RX12 32 "TideLotsModel$State" "store" "[I" ∈ wsX12_become := by decide +kernel
theorem k_X12_become_f35 : Cond.fieldLink RX12 35 "TideLotsModel$State" "caught" "[I" ∈ wsX12_become := by decide +kernel
theorem k_X12_become_f38 : Cond.fieldLink RX12 38 "TideLotsModel$State" "where" "[I" ∈ wsX12_become := by decide +kernel
theorem k_X12_become_f41 : Cond.fieldLink RX12 41 "TideLotsModel$State" "tears" "[I" ∈ wsX12_become := by decide +kernel
theorem k_X12_become_f44 : Cond.fieldLink RX12 44 "TideLotsModel$State" "cheats" "[I" ∈ wsX12_become := by decide +kernel
theorem k_X12_become_f47 : Cond.fieldLink RX12 47 "TideLotsModel$State" "shown" "[I" ∈ wsX12_become := by decide +kernel
theorem k_X12_become_f50 : Cond.fieldLink RX12 50 "TideLotsModel$State" "hidden" "[I" ∈ wsX12_become := by decide +kernel
theorem k_X12_become_f53 : Cond.fieldLink RX12 53 "TideLotsModel$State" "hid" "[I" ∈ wsX12_become := by decide +kernel
abbrev rX12_become : Room := { frames := 2, cells := 0, slots := 0, locals := 82 }
noncomputable def b_X12_become_0 (M : gMem) (x0 : Nat) (x1 : Option Nat) : Option (Unit × gMem) :=
  dr x1 fun a1 => ck (mT M a1 = 11) <| ck (mT M x0 = 11) <| lw (wI M x0 0 ((mI M a1 0))) fun M4 => lw (wI M4 x0 1 ((mI M4 a1 1))) fun M7 => bd (f_X12_copy M7 x0 ((mR M7 a1 2)) ((mR M7 x0 2))) fun _ M10 => ck (mT M10 a1 = 11) <| ck (mT M10 x0 = 11) <| bd (f_X12_copy M10 x0 ((mR M10 a1 3)) ((mR M10 x0 3))) fun _ M13 => ck (mT M13 a1 = 11) <| ck (mT M13 x0 = 11) <| bd (f_X12_copy M13 x0 ((mR M13 a1 4)) ((mR M13 x0 4))) fun _ M16 => ck (mT M16 a1 = 11) <| ck (mT M16 x0 = 11) <| bd (f_X12_copy M16 x0 ((mR M16 a1 5)) ((mR M16 x0 5))) fun _ M19 => ck (mT M19 a1 = 11) <| ck (mT M19 x0 = 11) <| bd (f_X12_copy M19 x0 ((mR M19 a1 6)) ((mR M19 x0 6))) fun _ M22 => ck (mT M22 a1 = 11) <| ck (mT M22 x0 = 11) <| bd (f_X12_copy M22 x0 ((mR M22 a1 7)) ((mR M22 x0 7))) fun _ M25 => ck (mT M25 a1 = 11) <| ck (mT M25 x0 = 11) <| bd (f_X12_copy M25 x0 ((mR M25 a1 8)) ((mR M25 x0 8))) fun _ M28 => ck (mT M28 a1 = 11) <| ck (mT M28 x0 = 11) <| bd (f_X12_copy M28 x0 ((mR M28 a1 9)) ((mR M28 x0 9))) fun _ M31 => ck (mT M31 a1 = 11) <| ck (mT M31 x0 = 11) <| bd (f_X12_copy M31 x0 ((mR M31 a1 10)) ((mR M31 x0 10))) fun _ M34 => ck (mT M34 a1 = 11) <| ck (mT M34 x0 = 11) <| bd (f_X12_copy M34 x0 ((mR M34 a1 11)) ((mR M34 x0 11))) fun _ M37 => ck (mT M37 a1 = 11) <| ck (mT M37 x0 = 11) <| bd (f_X12_copy M37 x0 ((mR M37 a1 12)) ((mR M37 x0 12))) fun _ M40 => ck (mT M40 a1 = 11) <| ck (mT M40 x0 = 11) <| bd (f_X12_copy M40 x0 ((mR M40 a1 13)) ((mR M40 x0 13))) fun _ M43 => some ((), M43)
noncomputable def f_X12_become (M : gMem) (x0 : Nat) (x1 : Option Nat) : Option (Unit × gMem) :=
  b_X12_become_0 M x0 x1
set_option maxHeartbeats 4000000 in
set_option maxRecDepth 100000 in
theorem t_X12_become_0 (X : gX p s m args meth c D cy B (gSt Z B H0) RX12 cX12_become wsX12_become 2) (hr : meth.sig.returnType = none) {Q : State → Prop} : ∀ (M : gMem) (x0 : Nat) (x1 : Option Nat) (z : Unit × gMem), b_X12_become_0 M x0 x1 = some z → (fun (r : Unit × gMem) => Q = gMQ below D cy B H0 args s 0 0 none r.2) z → gGo p l e rX12_become s m args below meth c D cy B H0 2 0 0 Q 0 [(0, vR (some x0)), (1, vR x1)] [] M := by
  intro M x0 x1 z hf hK
  unfold b_X12_become_0 at hf
  refine g_aload_n X dX12_become_0 rfl rfl ?_
  refine g_aload_n X dX12_become_1 rfl rfl ?_
  obtain ⟨a1, ha1, hf⟩ := dr_e hf
  obtain ⟨hT2, hf⟩ := ck_e hf
  refine g_get (ci := 10) (v := vI (mI M a1 0)) 0 X cdX12 i_X12_become_X12 (by decide) k_X12_become_f74 rfl dX12_become_2 ha1 hT2 rfl ?_
  obtain ⟨hT3, hf⟩ := ck_e hf
  refine g_putI (ci := 10) 0 X cdX12 i_X12_become_X12 (by decide) k_X12_become_f74 rfl dX12_become_5 rfl hT3 (Or.inl rfl) rfl rfl rfl ?_
  obtain ⟨M4, hM4, hf⟩ := lw_e hf
  rw [← hM4]
  have hT5 : mT M4 a1 = 11 := by rw [hM4]; exact hT2
  have hT6 : mT M4 x0 = 11 := by rw [hM4]; exact hT3
  refine g_aload_n X dX12_become_8 rfl rfl ?_
  refine g_aload_n X dX12_become_9 rfl rfl ?_
  refine g_get (ci := 10) (v := vI (mI M4 a1 1)) 1 X cdX12 i_X12_become_X12 (by decide) k_X12_become_f15 rfl dX12_become_10 ha1 hT5 rfl ?_
  refine g_putI (ci := 10) 1 X cdX12 i_X12_become_X12 (by decide) k_X12_become_f15 rfl dX12_become_13 rfl hT6 (Or.inl rfl) rfl rfl rfl ?_
  obtain ⟨M7, hM7, hf⟩ := lw_e hf
  rw [← hM7]
  have hT8 : mT M7 a1 = 11 := by rw [hM7]; exact hT5
  have hT9 : mT M7 x0 = 11 := by rw [hM7]; exact hT6
  refine g_aload_n X dX12_become_16 rfl rfl ?_
  refine g_aload_n X dX12_become_17 rfl rfl ?_
  refine g_get (ci := 10) (v := vR (mR M7 a1 2)) 2 X cdX12 i_X12_become_X12 (by decide) k_X12_become_f19 rfl dX12_become_18 ha1 hT8 rfl ?_
  refine g_aload_n X dX12_become_21 rfl rfl ?_
  refine g_get (ci := 10) (v := vR (mR M7 x0 2)) 2 X cdX12 i_X12_become_X12 (by decide) k_X12_become_f19 rfl dX12_become_22 rfl hT9 rfl ?_
  obtain ⟨r10, M10, hq10, hf⟩ := bd_e hf
  refine g_callV (ci := 10) (b := x0) (As := [vR (mR M7 a1 2), vR (mR M7 x0 2)]) (st := []) (v := none) (M1 := M10) X (m_X12_copy l hq10) (cwV 2 X.2.2.1 gX12_become_X12_copy rfl rfl rfl (by decide +kernel) ⟨Nat.le_of_ble_eq_true rfl, Nat.le_of_ble_eq_true rfl⟩) rfl rfl rfl hT9 (by decide) rfl (Nat.le_of_ble_eq_true rfl) dX12_become_25 ⟨by decide, by decide⟩ ?_
  refine g_aload_n X dX12_become_28 rfl rfl ?_
  refine g_aload_n X dX12_become_29 rfl rfl ?_
  obtain ⟨hT11, hf⟩ := ck_e hf
  refine g_get (ci := 10) (v := vR (mR M10 a1 3)) 3 X cdX12 i_X12_become_X12 (by decide) k_X12_become_f23 rfl dX12_become_30 ha1 hT11 rfl ?_
  refine g_aload_n X dX12_become_33 rfl rfl ?_
  obtain ⟨hT12, hf⟩ := ck_e hf
  refine g_get (ci := 10) (v := vR (mR M10 x0 3)) 3 X cdX12 i_X12_become_X12 (by decide) k_X12_become_f23 rfl dX12_become_34 rfl hT12 rfl ?_
  obtain ⟨r13, M13, hq13, hf⟩ := bd_e hf
  refine g_callV (ci := 10) (b := x0) (As := [vR (mR M10 a1 3), vR (mR M10 x0 3)]) (st := []) (v := none) (M1 := M13) X (m_X12_copy l hq13) (cwV 2 X.2.2.1 gX12_become_X12_copy rfl rfl rfl (by decide +kernel) ⟨Nat.le_of_ble_eq_true rfl, Nat.le_of_ble_eq_true rfl⟩) rfl rfl rfl hT12 (by decide) rfl (Nat.le_of_ble_eq_true rfl) dX12_become_37 ⟨by decide, by decide⟩ ?_
  refine g_aload_n X dX12_become_40 rfl rfl ?_
  refine g_aload_n X dX12_become_41 rfl rfl ?_
  obtain ⟨hT14, hf⟩ := ck_e hf
  refine g_get (ci := 10) (v := vR (mR M13 a1 4)) 4 X cdX12 i_X12_become_X12 (by decide) k_X12_become_f26 rfl dX12_become_42 ha1 hT14 rfl ?_
  refine g_aload_n X dX12_become_45 rfl rfl ?_
  obtain ⟨hT15, hf⟩ := ck_e hf
  refine g_get (ci := 10) (v := vR (mR M13 x0 4)) 4 X cdX12 i_X12_become_X12 (by decide) k_X12_become_f26 rfl dX12_become_46 rfl hT15 rfl ?_
  obtain ⟨r16, M16, hq16, hf⟩ := bd_e hf
  refine g_callV (ci := 10) (b := x0) (As := [vR (mR M13 a1 4), vR (mR M13 x0 4)]) (st := []) (v := none) (M1 := M16) X (m_X12_copy l hq16) (cwV 2 X.2.2.1 gX12_become_X12_copy rfl rfl rfl (by decide +kernel) ⟨Nat.le_of_ble_eq_true rfl, Nat.le_of_ble_eq_true rfl⟩) rfl rfl rfl hT15 (by decide) rfl (Nat.le_of_ble_eq_true rfl) dX12_become_49 ⟨by decide, by decide⟩ ?_
  refine g_aload_n X dX12_become_52 rfl rfl ?_
  refine g_aload_n X dX12_become_53 rfl rfl ?_
  obtain ⟨hT17, hf⟩ := ck_e hf
  refine g_get (ci := 10) (v := vR (mR M16 a1 5)) 5 X cdX12 i_X12_become_X12 (by decide) k_X12_become_f29 rfl dX12_become_54 ha1 hT17 rfl ?_
  refine g_aload_n X dX12_become_57 rfl rfl ?_
  obtain ⟨hT18, hf⟩ := ck_e hf
  refine g_get (ci := 10) (v := vR (mR M16 x0 5)) 5 X cdX12 i_X12_become_X12 (by decide) k_X12_become_f29 rfl dX12_become_58 rfl hT18 rfl ?_
  obtain ⟨r19, M19, hq19, hf⟩ := bd_e hf
  refine g_callV (ci := 10) (b := x0) (As := [vR (mR M16 a1 5), vR (mR M16 x0 5)]) (st := []) (v := none) (M1 := M19) X (m_X12_copy l hq19) (cwV 2 X.2.2.1 gX12_become_X12_copy rfl rfl rfl (by decide +kernel) ⟨Nat.le_of_ble_eq_true rfl, Nat.le_of_ble_eq_true rfl⟩) rfl rfl rfl hT18 (by decide) rfl (Nat.le_of_ble_eq_true rfl) dX12_become_61 ⟨by decide, by decide⟩ ?_
  refine g_aload_n X dX12_become_64 rfl rfl ?_
  refine g_aload_n X dX12_become_65 rfl rfl ?_
  obtain ⟨hT20, hf⟩ := ck_e hf
  refine g_get (ci := 10) (v := vR (mR M19 a1 6)) 6 X cdX12 i_X12_become_X12 (by decide) k_X12_become_f32 rfl dX12_become_66 ha1 hT20 rfl ?_
  refine g_aload_n X dX12_become_69 rfl rfl ?_
  obtain ⟨hT21, hf⟩ := ck_e hf
  refine g_get (ci := 10) (v := vR (mR M19 x0 6)) 6 X cdX12 i_X12_become_X12 (by decide) k_X12_become_f32 rfl dX12_become_70 rfl hT21 rfl ?_
  obtain ⟨r22, M22, hq22, hf⟩ := bd_e hf
  refine g_callV (ci := 10) (b := x0) (As := [vR (mR M19 a1 6), vR (mR M19 x0 6)]) (st := []) (v := none) (M1 := M22) X (m_X12_copy l hq22) (cwV 2 X.2.2.1 gX12_become_X12_copy rfl rfl rfl (by decide +kernel) ⟨Nat.le_of_ble_eq_true rfl, Nat.le_of_ble_eq_true rfl⟩) rfl rfl rfl hT21 (by decide) rfl (Nat.le_of_ble_eq_true rfl) dX12_become_73 ⟨by decide, by decide⟩ ?_
  refine g_aload_n X dX12_become_76 rfl rfl ?_
  refine g_aload_n X dX12_become_77 rfl rfl ?_
  obtain ⟨hT23, hf⟩ := ck_e hf
  refine g_get (ci := 10) (v := vR (mR M22 a1 7)) 7 X cdX12 i_X12_become_X12 (by decide) k_X12_become_f35 rfl dX12_become_78 ha1 hT23 rfl ?_
  refine g_aload_n X dX12_become_81 rfl rfl ?_
  obtain ⟨hT24, hf⟩ := ck_e hf
  refine g_get (ci := 10) (v := vR (mR M22 x0 7)) 7 X cdX12 i_X12_become_X12 (by decide) k_X12_become_f35 rfl dX12_become_82 rfl hT24 rfl ?_
  obtain ⟨r25, M25, hq25, hf⟩ := bd_e hf
  refine g_callV (ci := 10) (b := x0) (As := [vR (mR M22 a1 7), vR (mR M22 x0 7)]) (st := []) (v := none) (M1 := M25) X (m_X12_copy l hq25) (cwV 2 X.2.2.1 gX12_become_X12_copy rfl rfl rfl (by decide +kernel) ⟨Nat.le_of_ble_eq_true rfl, Nat.le_of_ble_eq_true rfl⟩) rfl rfl rfl hT24 (by decide) rfl (Nat.le_of_ble_eq_true rfl) dX12_become_85 ⟨by decide, by decide⟩ ?_
  refine g_aload_n X dX12_become_88 rfl rfl ?_
  refine g_aload_n X dX12_become_89 rfl rfl ?_
  obtain ⟨hT26, hf⟩ := ck_e hf
  refine g_get (ci := 10) (v := vR (mR M25 a1 8)) 8 X cdX12 i_X12_become_X12 (by decide) k_X12_become_f38 rfl dX12_become_90 ha1 hT26 rfl ?_
  refine g_aload_n X dX12_become_93 rfl rfl ?_
  obtain ⟨hT27, hf⟩ := ck_e hf
  refine g_get (ci := 10) (v := vR (mR M25 x0 8)) 8 X cdX12 i_X12_become_X12 (by decide) k_X12_become_f38 rfl dX12_become_94 rfl hT27 rfl ?_
  obtain ⟨r28, M28, hq28, hf⟩ := bd_e hf
  refine g_callV (ci := 10) (b := x0) (As := [vR (mR M25 a1 8), vR (mR M25 x0 8)]) (st := []) (v := none) (M1 := M28) X (m_X12_copy l hq28) (cwV 2 X.2.2.1 gX12_become_X12_copy rfl rfl rfl (by decide +kernel) ⟨Nat.le_of_ble_eq_true rfl, Nat.le_of_ble_eq_true rfl⟩) rfl rfl rfl hT27 (by decide) rfl (Nat.le_of_ble_eq_true rfl) dX12_become_97 ⟨by decide, by decide⟩ ?_
  refine g_aload_n X dX12_become_100 rfl rfl ?_
  refine g_aload_n X dX12_become_101 rfl rfl ?_
  obtain ⟨hT29, hf⟩ := ck_e hf
  refine g_get (ci := 10) (v := vR (mR M28 a1 9)) 9 X cdX12 i_X12_become_X12 (by decide) k_X12_become_f41 rfl dX12_become_102 ha1 hT29 rfl ?_
  refine g_aload_n X dX12_become_105 rfl rfl ?_
  obtain ⟨hT30, hf⟩ := ck_e hf
  refine g_get (ci := 10) (v := vR (mR M28 x0 9)) 9 X cdX12 i_X12_become_X12 (by decide) k_X12_become_f41 rfl dX12_become_106 rfl hT30 rfl ?_
  obtain ⟨r31, M31, hq31, hf⟩ := bd_e hf
  refine g_callV (ci := 10) (b := x0) (As := [vR (mR M28 a1 9), vR (mR M28 x0 9)]) (st := []) (v := none) (M1 := M31) X (m_X12_copy l hq31) (cwV 2 X.2.2.1 gX12_become_X12_copy rfl rfl rfl (by decide +kernel) ⟨Nat.le_of_ble_eq_true rfl, Nat.le_of_ble_eq_true rfl⟩) rfl rfl rfl hT30 (by decide) rfl (Nat.le_of_ble_eq_true rfl) dX12_become_109 ⟨by decide, by decide⟩ ?_
  refine g_aload_n X dX12_become_112 rfl rfl ?_
  refine g_aload_n X dX12_become_113 rfl rfl ?_
  obtain ⟨hT32, hf⟩ := ck_e hf
  refine g_get (ci := 10) (v := vR (mR M31 a1 10)) 10 X cdX12 i_X12_become_X12 (by decide) k_X12_become_f44 rfl dX12_become_114 ha1 hT32 rfl ?_
  refine g_aload_n X dX12_become_117 rfl rfl ?_
  obtain ⟨hT33, hf⟩ := ck_e hf
  refine g_get (ci := 10) (v := vR (mR M31 x0 10)) 10 X cdX12 i_X12_become_X12 (by decide) k_X12_become_f44 rfl dX12_become_118 rfl hT33 rfl ?_
  obtain ⟨r34, M34, hq34, hf⟩ := bd_e hf
  refine g_callV (ci := 10) (b := x0) (As := [vR (mR M31 a1 10), vR (mR M31 x0 10)]) (st := []) (v := none) (M1 := M34) X (m_X12_copy l hq34) (cwV 2 X.2.2.1 gX12_become_X12_copy rfl rfl rfl (by decide +kernel) ⟨Nat.le_of_ble_eq_true rfl, Nat.le_of_ble_eq_true rfl⟩) rfl rfl rfl hT33 (by decide) rfl (Nat.le_of_ble_eq_true rfl) dX12_become_121 ⟨by decide, by decide⟩ ?_
  refine g_aload_n X dX12_become_124 rfl rfl ?_
  refine g_aload_n X dX12_become_125 rfl rfl ?_
  obtain ⟨hT35, hf⟩ := ck_e hf
  refine g_get (ci := 10) (v := vR (mR M34 a1 11)) 11 X cdX12 i_X12_become_X12 (by decide) k_X12_become_f47 rfl dX12_become_126 ha1 hT35 rfl ?_
  refine g_aload_n X dX12_become_129 rfl rfl ?_
  obtain ⟨hT36, hf⟩ := ck_e hf
  refine g_get (ci := 10) (v := vR (mR M34 x0 11)) 11 X cdX12 i_X12_become_X12 (by decide) k_X12_become_f47 rfl dX12_become_130 rfl hT36 rfl ?_
  obtain ⟨r37, M37, hq37, hf⟩ := bd_e hf
  refine g_callV (ci := 10) (b := x0) (As := [vR (mR M34 a1 11), vR (mR M34 x0 11)]) (st := []) (v := none) (M1 := M37) X (m_X12_copy l hq37) (cwV 2 X.2.2.1 gX12_become_X12_copy rfl rfl rfl (by decide +kernel) ⟨Nat.le_of_ble_eq_true rfl, Nat.le_of_ble_eq_true rfl⟩) rfl rfl rfl hT36 (by decide) rfl (Nat.le_of_ble_eq_true rfl) dX12_become_133 ⟨by decide, by decide⟩ ?_
  refine g_aload_n X dX12_become_136 rfl rfl ?_
  refine g_aload_n X dX12_become_137 rfl rfl ?_
  obtain ⟨hT38, hf⟩ := ck_e hf
  refine g_get (ci := 10) (v := vR (mR M37 a1 12)) 12 X cdX12 i_X12_become_X12 (by decide) k_X12_become_f50 rfl dX12_become_138 ha1 hT38 rfl ?_
  refine g_aload_n X dX12_become_141 rfl rfl ?_
  obtain ⟨hT39, hf⟩ := ck_e hf
  refine g_get (ci := 10) (v := vR (mR M37 x0 12)) 12 X cdX12 i_X12_become_X12 (by decide) k_X12_become_f50 rfl dX12_become_142 rfl hT39 rfl ?_
  obtain ⟨r40, M40, hq40, hf⟩ := bd_e hf
  refine g_callV (ci := 10) (b := x0) (As := [vR (mR M37 a1 12), vR (mR M37 x0 12)]) (st := []) (v := none) (M1 := M40) X (m_X12_copy l hq40) (cwV 2 X.2.2.1 gX12_become_X12_copy rfl rfl rfl (by decide +kernel) ⟨Nat.le_of_ble_eq_true rfl, Nat.le_of_ble_eq_true rfl⟩) rfl rfl rfl hT39 (by decide) rfl (Nat.le_of_ble_eq_true rfl) dX12_become_145 ⟨by decide, by decide⟩ ?_
  refine g_aload_n X dX12_become_148 rfl rfl ?_
  refine g_aload_n X dX12_become_149 rfl rfl ?_
  obtain ⟨hT41, hf⟩ := ck_e hf
  refine g_get (ci := 10) (v := vR (mR M40 a1 13)) 13 X cdX12 i_X12_become_X12 (by decide) k_X12_become_f53 rfl dX12_become_150 ha1 hT41 rfl ?_
  refine g_aload_n X dX12_become_153 rfl rfl ?_
  obtain ⟨hT42, hf⟩ := ck_e hf
  refine g_get (ci := 10) (v := vR (mR M40 x0 13)) 13 X cdX12 i_X12_become_X12 (by decide) k_X12_become_f53 rfl dX12_become_154 rfl hT42 rfl ?_
  obtain ⟨r43, M43, hq43, hf⟩ := bd_e hf
  refine g_callV (ci := 10) (b := x0) (As := [vR (mR M40 a1 13), vR (mR M40 x0 13)]) (st := []) (v := none) (M1 := M43) X (m_X12_copy l hq43) (cwV 2 X.2.2.1 gX12_become_X12_copy rfl rfl rfl (by decide +kernel) ⟨Nat.le_of_ble_eq_true rfl, Nat.le_of_ble_eq_true rfl⟩) rfl rfl rfl hT42 (by decide) rfl (Nat.le_of_ble_eq_true rfl) dX12_become_157 ⟨by decide, by decide⟩ ?_
  cases hf
  refine g_eqQ hK ?_
  exact g_vret X hr dX12_become_160
set_option maxHeartbeats 4000000 in
set_option maxRecDepth 100000 in
theorem m_X12_become (l : Launch) {D : va_G} {cy : Nat → ClassId} {B : Nat} {H0 : Heap} {Z : Nat → Nat} {M M1 : gMem} {x0 : Nat} {x1 : Option Nat} {r : Unit} (hf : f_X12_become M x0 x1 = some (r, M1)) : Met l yX12_become wsX12_become rX12_become (va_Pc (Value.ref x0 :: List.map gv [vR x1]) (gPre D cy B H0 (gSt Z B H0) M)) (gQ D cy B H0 none M1) 0 0 (gA B) := by
  refine Met.ofW (cc := cX12_become) (maxL := 2) (ret := none) (by decide) rfl ?_
  intro p e s m args below meth c s₁ Bd hml hv
  obtain ⟨rfl, hW, hKK, hFs⟩ := hv
  have X : gX p s m _ meth c D cy B (gSt Z B H0) RX12 cX12_become wsX12_become 2 := ⟨Bd.exec, Bd.bytes, atoms_spec (ws := wsX12_become) Bd.pre, findClass_of_methodNamed Bd.named, hml, hKK, by rw [hW.1]; exact hW.2.1, Bd.notSynchronized, hFs⟩
  have hr := Bd.returns
  rcases x1 with _ | x1
  · have hl := lv_entry ([.ref x0, .null]) (n := 2) (Nat.le_of_ble_eq_true rfl)
    show W p l e rX12_become s m _ below meth c s.heap [] 0 0 _ (entryFrame m ([.ref x0, .null] : List Value).toArray 2)
    rw [lg_entry_eq]
    generalize (lg_sl ([.ref x0, .null]) ++ List.replicate (2 - (lg_sl ([.ref x0, .null])).length) Slot.unset).toArray = ls at hl ⊢
    have hl : lv_has ls 2 (List.map gq [(0, vR (some x0)), (1, vR none)]) := hl
    exact t_X12_become_0 X hr _ _ _ _ hf rfl s.heap [] ls hW va_S.rf (lv_has_sub hl (lvsub_of _ _ [0, 1] rfl))
  · have hl := lv_entry ([.ref x0, .ref x1]) (n := 2) (Nat.le_of_ble_eq_true rfl)
    show W p l e rX12_become s m _ below meth c s.heap [] 0 0 _ (entryFrame m ([.ref x0, .ref x1] : List Value).toArray 2)
    rw [lg_entry_eq]
    generalize (lg_sl ([.ref x0, .ref x1]) ++ List.replicate (2 - (lg_sl ([.ref x0, .ref x1])).length) Slot.unset).toArray = ls at hl ⊢
    have hl : lv_has ls 2 (List.map gq [(0, vR (some x0)), (1, vR (some x1))]) := hl
    exact t_X12_become_0 X hr _ _ _ _ hf rfl s.heap [] ls hW va_S.rf (lv_has_sub hl (lvsub_of _ _ [0, 1] rfl))
/-! ## TideLotsModel$State.fishAt(I)I -/
theorem dX12_fishAt_0 : decode cX12_fishAt 0 = .ok (.iconst 0, 1) := by decide +kernel
theorem dX12_fishAt_1 : decode cX12_fishAt 1 = .ok (.istore_n 2, 1) := by decide +kernel
theorem dX12_fishAt_2 : decode cX12_fishAt 2 = .ok (.iconst 0, 1) := by decide +kernel
theorem dX12_fishAt_3 : decode cX12_fishAt 3 = .ok (.istore_n 3, 1) := by decide +kernel
theorem dX12_fishAt_4 : decode cX12_fishAt 4 = .ok (.iload_n 3, 1) := by decide +kernel
theorem dX12_fishAt_5 : decode cX12_fishAt 5 = .ok (.iconst 5, 1) := by decide +kernel
theorem dX12_fishAt_6 : decode cX12_fishAt 6 = .ok (.if_icmp .ge 22, 3) := by decide +kernel
theorem dX12_fishAt_9 : decode cX12_fishAt 9 = .ok (.iload_n 2, 1) := by decide +kernel
theorem dX12_fishAt_10 : decode cX12_fishAt 10 = .ok (.aload_n 0, 1) := by decide +kernel
theorem dX12_fishAt_11 : decode cX12_fishAt 11 = .ok (.getfield 19, 3) := by decide +kernel
theorem dX12_fishAt_14 : decode cX12_fishAt 14 = .ok (.iconst 5, 1) := by decide +kernel
theorem dX12_fishAt_15 : decode cX12_fishAt 15 = .ok (.iload_n 1, 1) := by decide +kernel
theorem dX12_fishAt_16 : decode cX12_fishAt 16 = .ok (.imul, 1) := by decide +kernel
theorem dX12_fishAt_17 : decode cX12_fishAt 17 = .ok (.iload_n 3, 1) := by decide +kernel
theorem dX12_fishAt_18 : decode cX12_fishAt 18 = .ok (.iadd, 1) := by decide +kernel
theorem dX12_fishAt_19 : decode cX12_fishAt 19 = .ok (.iaload, 1) := by decide +kernel
theorem dX12_fishAt_20 : decode cX12_fishAt 20 = .ok (.iadd, 1) := by decide +kernel
theorem dX12_fishAt_21 : decode cX12_fishAt 21 = .ok (.istore_n 2, 1) := by decide +kernel
theorem dX12_fishAt_22 : decode cX12_fishAt 22 = .ok (.iinc 3 1, 3) := by decide +kernel
theorem dX12_fishAt_25 : decode cX12_fishAt 25 = .ok (.goto (-21), 3) := by decide +kernel
theorem dX12_fishAt_28 : decode cX12_fishAt 28 = .ok (.iload_n 2, 1) := by decide +kernel
theorem dX12_fishAt_29 : decode cX12_fishAt 29 = .ok (.ireturn, 1) := by decide +kernel
theorem k_X12_fishAt_f19 : Cond.fieldLink RX12 19 "TideLotsModel$State" "fish" "[I" ∈ wsX12_fishAt := by decide +kernel
theorem i_X12_fishAt_X12 : ∀ w ∈ u_ws RX12 TX12 19, w ∈ wsX12_fishAt := by decide +kernel
abbrev rX12_fishAt : Room := { frames := 0, cells := 0, slots := 0, locals := 0 }
noncomputable def bb_X12_fishAt_4 (M : gMem) (x0 : Nat) (x1 : Int32) (x2 : Int32) (x3 : Int32) : Option ((gMem × Int32 × Int32) ⊕ (Int32 × gMem)) :=
  (if (5 : Int32) ≤ x3 then oI (some (x2, M)) else ck (mT M x0 = 11) <| dr ((mR M x0 2)) fun a3 => ck (mT M a3 = 20) <| ck (inb (((5 : Int32) * x1) + x3) (mL M a3)) <| some (.inl (M, (x2 + (mI M a3 ((((5 : Int32) * x1) + x3)).toNatClampNeg)), (x3 + (1 : Int32)))))
noncomputable def lp_X12_fishAt_4 (M : gMem) (x0 : Nat) (x1 : Int32) (x2 : Int32) (x3 : Int32) : Option (Int32 × gMem) :=
  lp (fun (q : gMem × Int32 × Int32) => bb_X12_fishAt_4 q.1 x0 x1 q.2.1 q.2.2) (M, x2, x3)
noncomputable def b_X12_fishAt_0 (M : gMem) (x0 : Nat) (x1 : Int32) : Option (Int32 × gMem) :=
  lp_X12_fishAt_4 M x0 x1 ((0 : Int32)) ((0 : Int32))
noncomputable def f_X12_fishAt (M : gMem) (x0 : Nat) (x1 : Int32) : Option (Int32 × gMem) :=
  b_X12_fishAt_0 M x0 x1
set_option maxHeartbeats 4000000 in
set_option maxRecDepth 100000 in
theorem tb_X12_fishAt_4 (X : gX p s m args meth c D cy B (gSt Z B H0) RX12 cX12_fishAt wsX12_fishAt 4) (hr : meth.sig.returnType = (some .int)) {Q : State → Prop} : ∀ (M : gMem) (x0 : Nat) (x1 : Int32) (x2 : Int32) (x3 : Int32) (z : (gMem × Int32 × Int32) ⊕ (Int32 × gMem)), bb_X12_fishAt_4 M x0 x1 x2 x3 = some z → (Sum.elim (fun (q : gMem × Int32 × Int32) => gGo p l e rX12_fishAt s m args below meth c D cy B H0 4 0 0 Q 4 [(0, vR (some x0)), (1, vI x1), (2, vI q.2.1), (3, vI q.2.2)] [] q.1) (fun (r : Int32 × gMem) => Q = gMQ below D cy B H0 args s 0 0 (some (vI r.1)) r.2)) z → gGo p l e rX12_fishAt s m args below meth c D cy B H0 4 0 0 Q 4 [(0, vR (some x0)), (1, vI x1), (2, vI x2), (3, vI x3)] [] M := by
  intro M x0 x1 x2 x3 z hf hK
  unfold bb_X12_fishAt_4 at hf
  refine g_iload_n X dX12_fishAt_4 rfl rfl ?_
  refine g_iconst (v := (5 : Int32)) X dX12_fishAt_5 (by decide) ?_
  refine g_icmp_ge (tgt := 28) X dX12_fishAt_6 (by decide) (fun hc => ?_) (fun hc => ?_)
  · have hf := ife_t hc hf
    refine g_iload_n X dX12_fishAt_28 rfl rfl ?_
    obtain ⟨w1, hw1, hz1⟩ := oI_e hf
    subst hz1
    have hf := hw1
    cases hf
    refine g_eqQ hK ?_
    exact g_iret X hr dX12_fishAt_29
  · have hf := ife_f hc hf
    refine g_iload_n X dX12_fishAt_9 rfl rfl ?_
    refine g_aload_n X dX12_fishAt_10 rfl rfl ?_
    obtain ⟨hT2, hf⟩ := ck_e hf
    refine g_get (ci := 10) (v := vR (mR M x0 2)) 2 X cdX12 i_X12_fishAt_X12 (by decide) k_X12_fishAt_f19 rfl dX12_fishAt_11 rfl hT2 rfl ?_
    refine g_iconst (v := (5 : Int32)) X dX12_fishAt_14 (by decide) ?_
    refine g_iload_n X dX12_fishAt_15 rfl rfl ?_
    refine g_imul X dX12_fishAt_16 ?_
    refine g_iload_n X dX12_fishAt_17 rfl rfl ?_
    refine g_iadd X dX12_fishAt_18 ?_
    obtain ⟨a3, ha3, hf⟩ := dr_e hf
    obtain ⟨hT4, hf⟩ := ck_e hf
    obtain ⟨hg5, hf⟩ := ck_e hf
    refine g_iald X dX12_fishAt_19 ha3 hT4 hg5 ?_
    refine g_iadd X dX12_fishAt_20 ?_
    refine g_istore_n (lv' := [(2, vI (x2 + (mI M a3 ((((5 : Int32) * x1) + x3)).toNatClampNeg))), (0, vR (some x0)), (1, vI x1), (3, vI x3)]) X dX12_fishAt_21 rfl (by decide) rfl ?_
    refine g_iinc (v := (1 : Int32)) (lv' := [(3, vI (x3 + (1 : Int32))), (2, vI (x2 + (mI M a3 ((((5 : Int32) * x1) + x3)).toNatClampNeg))), (0, vR (some x0)), (1, vI x1)]) X dX12_fishAt_22 rfl (by decide) (by decide) rfl ?_
    refine g_goto (tgt := 4) X dX12_fishAt_25 (by decide) ?_
    cases hf
    refine g_sub (lvsub_of _ _ [2, 3, 1, 0] rfl) ?_
    exact hK
set_option maxHeartbeats 4000000 in
set_option maxRecDepth 100000 in
theorem tl_X12_fishAt_4 (X : gX p s m args meth c D cy B (gSt Z B H0) RX12 cX12_fishAt wsX12_fishAt 4) (hr : meth.sig.returnType = (some .int)) {Q : State → Prop} : ∀ (M : gMem) (x0 : Nat) (x1 : Int32) (x2 : Int32) (x3 : Int32) (z : Int32 × gMem), lp_X12_fishAt_4 M x0 x1 x2 x3 = some z → (fun (r : Int32 × gMem) => Q = gMQ below D cy B H0 args s 0 0 (some (vI r.1)) r.2) z → gGo p l e rX12_fishAt s m args below meth c D cy B H0 4 0 0 Q 4 [(0, vR (some x0)), (1, vI x1), (2, vI x2), (3, vI x3)] [] M := by
  intro M x0 x1 x2 x3 z hf hK
  refine lp_ind (P := (fun (q : gMem × Int32 × Int32) (z : Int32 × gMem) => (fun (r : Int32 × gMem) => Q = gMQ below D cy B H0 args s 0 0 (some (vI r.1)) r.2) z → gGo p l e rX12_fishAt s m args below meth c D cy B H0 4 0 0 Q 4 [(0, vR (some x0)), (1, vI x1), (2, vI q.2.1), (3, vI q.2.2)] [] q.1)) (fun q z hq => ?_) _ _ hf hK
  intro hK
  obtain ⟨w, hw, hm⟩ := hq
  refine tb_X12_fishAt_4 X hr _ _ _ _ _ w hw ?_
  cases w with
  | inl a => exact hm hK
  | inr b => cases hm; exact hK
set_option maxHeartbeats 4000000 in
set_option maxRecDepth 100000 in
theorem t_X12_fishAt_0 (X : gX p s m args meth c D cy B (gSt Z B H0) RX12 cX12_fishAt wsX12_fishAt 4) (hr : meth.sig.returnType = (some .int)) {Q : State → Prop} : ∀ (M : gMem) (x0 : Nat) (x1 : Int32) (z : Int32 × gMem), b_X12_fishAt_0 M x0 x1 = some z → (fun (r : Int32 × gMem) => Q = gMQ below D cy B H0 args s 0 0 (some (vI r.1)) r.2) z → gGo p l e rX12_fishAt s m args below meth c D cy B H0 4 0 0 Q 0 [(0, vR (some x0)), (1, vI x1)] [] M := by
  intro M x0 x1 z hf hK
  unfold b_X12_fishAt_0 at hf
  refine g_iconst (v := (0 : Int32)) X dX12_fishAt_0 (by decide) ?_
  refine g_istore_n (lv' := [(2, vI (0 : Int32)), (0, vR (some x0)), (1, vI x1)]) X dX12_fishAt_1 rfl (by decide) rfl ?_
  refine g_iconst (v := (0 : Int32)) X dX12_fishAt_2 (by decide) ?_
  refine g_istore_n (lv' := [(3, vI (0 : Int32)), (2, vI (0 : Int32)), (0, vR (some x0)), (1, vI x1)]) X dX12_fishAt_3 rfl (by decide) rfl ?_
  refine g_sub (lvsub_of _ _ [2, 3, 1, 0] rfl) ?_
  exact tl_X12_fishAt_4 X hr _ _ _ _ _ _ hf hK
set_option maxHeartbeats 4000000 in
set_option maxRecDepth 100000 in
theorem m_X12_fishAt (l : Launch) {D : va_G} {cy : Nat → ClassId} {B : Nat} {H0 : Heap} {Z : Nat → Nat} {M M1 : gMem} {x0 : Nat} {x1 : Int32} {r : Int32} (hf : f_X12_fishAt M x0 x1 = some (r, M1)) : Met l yX12_fishAt wsX12_fishAt rX12_fishAt (va_Pc (Value.ref x0 :: List.map gv [vI x1]) (gPre D cy B H0 (gSt Z B H0) M)) (gQ D cy B H0 (some (vI r)) M1) 0 0 (gA B) := by
  refine Met.ofW (cc := cX12_fishAt) (maxL := 4) (ret := (some .int)) (by decide) rfl ?_
  intro p e s m args below meth c s₁ Bd hml hv
  obtain ⟨rfl, hW, hKK, hFs⟩ := hv
  have X : gX p s m _ meth c D cy B (gSt Z B H0) RX12 cX12_fishAt wsX12_fishAt 4 := ⟨Bd.exec, Bd.bytes, atoms_spec (ws := wsX12_fishAt) Bd.pre, findClass_of_methodNamed Bd.named, hml, hKK, by rw [hW.1]; exact hW.2.1, Bd.notSynchronized, hFs⟩
  have hr := Bd.returns
  have hl := lv_entry ([.ref x0, .int x1]) (n := 4) (Nat.le_of_ble_eq_true rfl)
  show W p l e rX12_fishAt s m _ below meth c s.heap [] 0 0 _ (entryFrame m ([.ref x0, .int x1] : List Value).toArray 4)
  rw [lg_entry_eq]
  generalize (lg_sl ([.ref x0, .int x1]) ++ List.replicate (4 - (lg_sl ([.ref x0, .int x1])).length) Slot.unset).toArray = ls at hl ⊢
  have hl : lv_has ls 4 (List.map gq [(0, vR (some x0)), (1, vI x1)]) := hl
  exact t_X12_fishAt_0 X hr _ _ _ _ hf rfl s.heap [] ls hW va_S.rf (lv_has_sub hl (lvsub_of _ _ [0, 1] rfl))
/-! ## TideLotsModel$State.sum([I)I -/
theorem dX12_sum_0 : decode cX12_sum 0 = .ok (.iconst 0, 1) := by decide +kernel
theorem dX12_sum_1 : decode cX12_sum 1 = .ok (.istore_n 2, 1) := by decide +kernel
theorem dX12_sum_2 : decode cX12_sum 2 = .ok (.aload_n 1, 1) := by decide +kernel
theorem dX12_sum_3 : decode cX12_sum 3 = .ok (.astore_n 3, 1) := by decide +kernel
theorem dX12_sum_4 : decode cX12_sum 4 = .ok (.aload_n 3, 1) := by decide +kernel
theorem dX12_sum_5 : decode cX12_sum 5 = .ok (.arraylength, 1) := by decide +kernel
theorem dX12_sum_6 : decode cX12_sum 6 = .ok (.istore 4, 2) := by decide +kernel
theorem dX12_sum_8 : decode cX12_sum 8 = .ok (.iconst 0, 1) := by decide +kernel
theorem dX12_sum_9 : decode cX12_sum 9 = .ok (.istore 5, 2) := by decide +kernel
theorem dX12_sum_11 : decode cX12_sum 11 = .ok (.iload 5, 2) := by decide +kernel
theorem dX12_sum_13 : decode cX12_sum 13 = .ok (.iload 4, 2) := by decide +kernel
theorem dX12_sum_15 : decode cX12_sum 15 = .ok (.if_icmp .ge 20, 3) := by decide +kernel
theorem dX12_sum_18 : decode cX12_sum 18 = .ok (.aload_n 3, 1) := by decide +kernel
theorem dX12_sum_19 : decode cX12_sum 19 = .ok (.iload 5, 2) := by decide +kernel
theorem dX12_sum_21 : decode cX12_sum 21 = .ok (.iaload, 1) := by decide +kernel
theorem dX12_sum_22 : decode cX12_sum 22 = .ok (.istore 6, 2) := by decide +kernel
theorem dX12_sum_24 : decode cX12_sum 24 = .ok (.iload_n 2, 1) := by decide +kernel
theorem dX12_sum_25 : decode cX12_sum 25 = .ok (.iload 6, 2) := by decide +kernel
theorem dX12_sum_27 : decode cX12_sum 27 = .ok (.iadd, 1) := by decide +kernel
theorem dX12_sum_28 : decode cX12_sum 28 = .ok (.istore_n 2, 1) := by decide +kernel
theorem dX12_sum_29 : decode cX12_sum 29 = .ok (.iinc 5 1, 3) := by decide +kernel
theorem dX12_sum_32 : decode cX12_sum 32 = .ok (.goto (-21), 3) := by decide +kernel
theorem dX12_sum_35 : decode cX12_sum 35 = .ok (.iload_n 2, 1) := by decide +kernel
theorem dX12_sum_36 : decode cX12_sum 36 = .ok (.ireturn, 1) := by decide +kernel
abbrev rX12_sum : Room := { frames := 0, cells := 0, slots := 0, locals := 0 }
noncomputable def bb_X12_sum_11 (M : gMem) (x2 : Int32) (x3 : Option Nat) (x4 : Int32) (x5 : Int32) : Option ((gMem × Int32 × Int32) ⊕ (Int32 × gMem)) :=
  (if x4 ≤ x5 then oI (some (x2, M)) else dr x3 fun a2 => ck (mT M a2 = 20) <| ck (inb x5 (mL M a2)) <| some (.inl (M, (x2 + (mI M a2 x5.toNatClampNeg)), (x5 + (1 : Int32)))))
noncomputable def lp_X12_sum_11 (M : gMem) (x2 : Int32) (x3 : Option Nat) (x4 : Int32) (x5 : Int32) : Option (Int32 × gMem) :=
  lp (fun (q : gMem × Int32 × Int32) => bb_X12_sum_11 q.1 q.2.1 x3 x4 q.2.2) (M, x2, x5)
noncomputable def b_X12_sum_0 (M : gMem) (x1 : Option Nat) : Option (Int32 × gMem) :=
  dr x1 fun a5 => ck (mT M a5 = 20) <| lp_X12_sum_11 M ((0 : Int32)) x1 ((Int32.ofNat (mL M a5))) ((0 : Int32))
noncomputable def f_X12_sum (M : gMem) (x0 : Nat) (x1 : Option Nat) : Option (Int32 × gMem) :=
  b_X12_sum_0 M x1
set_option maxHeartbeats 4000000 in
set_option maxRecDepth 100000 in
theorem tb_X12_sum_11 (X : gX p s m args meth c D cy B (gSt Z B H0) RX12 cX12_sum wsX12_sum 7) (hr : meth.sig.returnType = (some .int)) {Q : State → Prop} : ∀ (M : gMem) (x2 : Int32) (x3 : Option Nat) (x4 : Int32) (x5 : Int32) (z : (gMem × Int32 × Int32) ⊕ (Int32 × gMem)), bb_X12_sum_11 M x2 x3 x4 x5 = some z → (Sum.elim (fun (q : gMem × Int32 × Int32) => gGo p l e rX12_sum s m args below meth c D cy B H0 7 0 0 Q 11 [(2, vI q.2.1), (3, vR x3), (4, vI x4), (5, vI q.2.2)] [] q.1) (fun (r : Int32 × gMem) => Q = gMQ below D cy B H0 args s 0 0 (some (vI r.1)) r.2)) z → gGo p l e rX12_sum s m args below meth c D cy B H0 7 0 0 Q 11 [(2, vI x2), (3, vR x3), (4, vI x4), (5, vI x5)] [] M := by
  intro M x2 x3 x4 x5 z hf hK
  unfold bb_X12_sum_11 at hf
  refine g_iload X dX12_sum_11 rfl ?_
  refine g_iload X dX12_sum_13 rfl ?_
  refine g_icmp_ge (tgt := 35) X dX12_sum_15 (by decide) (fun hc => ?_) (fun hc => ?_)
  · have hf := ife_t hc hf
    refine g_iload_n X dX12_sum_35 rfl rfl ?_
    obtain ⟨w1, hw1, hz1⟩ := oI_e hf
    subst hz1
    have hf := hw1
    cases hf
    refine g_eqQ hK ?_
    exact g_iret X hr dX12_sum_36
  · have hf := ife_f hc hf
    refine g_aload_n X dX12_sum_18 rfl rfl ?_
    refine g_iload X dX12_sum_19 rfl ?_
    obtain ⟨a2, ha2, hf⟩ := dr_e hf
    obtain ⟨hT3, hf⟩ := ck_e hf
    obtain ⟨hg4, hf⟩ := ck_e hf
    refine g_iald X dX12_sum_21 ha2 hT3 hg4 ?_
    refine g_istore (lv' := [(6, vI (mI M a2 x5.toNatClampNeg)), (2, vI x2), (3, vR x3), (4, vI x4), (5, vI x5)]) X dX12_sum_22 (by decide) rfl ?_
    refine g_iload_n X dX12_sum_24 rfl rfl ?_
    refine g_iload X dX12_sum_25 rfl ?_
    refine g_iadd X dX12_sum_27 ?_
    refine g_istore_n (lv' := [(2, vI (x2 + (mI M a2 x5.toNatClampNeg))), (6, vI (mI M a2 x5.toNatClampNeg)), (3, vR x3), (4, vI x4), (5, vI x5)]) X dX12_sum_28 rfl (by decide) rfl ?_
    refine g_iinc (v := (1 : Int32)) (lv' := [(5, vI (x5 + (1 : Int32))), (2, vI (x2 + (mI M a2 x5.toNatClampNeg))), (6, vI (mI M a2 x5.toNatClampNeg)), (3, vR x3), (4, vI x4)]) X dX12_sum_29 rfl (by decide) (by decide) rfl ?_
    refine g_goto (tgt := 11) X dX12_sum_32 (by decide) ?_
    cases hf
    refine g_sub (lvsub_of _ _ [1, 3, 4, 0] rfl) ?_
    exact hK
set_option maxHeartbeats 4000000 in
set_option maxRecDepth 100000 in
theorem tl_X12_sum_11 (X : gX p s m args meth c D cy B (gSt Z B H0) RX12 cX12_sum wsX12_sum 7) (hr : meth.sig.returnType = (some .int)) {Q : State → Prop} : ∀ (M : gMem) (x2 : Int32) (x3 : Option Nat) (x4 : Int32) (x5 : Int32) (z : Int32 × gMem), lp_X12_sum_11 M x2 x3 x4 x5 = some z → (fun (r : Int32 × gMem) => Q = gMQ below D cy B H0 args s 0 0 (some (vI r.1)) r.2) z → gGo p l e rX12_sum s m args below meth c D cy B H0 7 0 0 Q 11 [(2, vI x2), (3, vR x3), (4, vI x4), (5, vI x5)] [] M := by
  intro M x2 x3 x4 x5 z hf hK
  refine lp_ind (P := (fun (q : gMem × Int32 × Int32) (z : Int32 × gMem) => (fun (r : Int32 × gMem) => Q = gMQ below D cy B H0 args s 0 0 (some (vI r.1)) r.2) z → gGo p l e rX12_sum s m args below meth c D cy B H0 7 0 0 Q 11 [(2, vI q.2.1), (3, vR x3), (4, vI x4), (5, vI q.2.2)] [] q.1)) (fun q z hq => ?_) _ _ hf hK
  intro hK
  obtain ⟨w, hw, hm⟩ := hq
  refine tb_X12_sum_11 X hr _ _ _ _ _ w hw ?_
  cases w with
  | inl a => exact hm hK
  | inr b => cases hm; exact hK
set_option maxHeartbeats 4000000 in
set_option maxRecDepth 100000 in
theorem t_X12_sum_0 (X : gX p s m args meth c D cy B (gSt Z B H0) RX12 cX12_sum wsX12_sum 7) (hr : meth.sig.returnType = (some .int)) {Q : State → Prop} : ∀ (M : gMem) (x1 : Option Nat) (z : Int32 × gMem), b_X12_sum_0 M x1 = some z → (fun (r : Int32 × gMem) => Q = gMQ below D cy B H0 args s 0 0 (some (vI r.1)) r.2) z → gGo p l e rX12_sum s m args below meth c D cy B H0 7 0 0 Q 0 [(1, vR x1)] [] M := by
  intro M x1 z hf hK
  unfold b_X12_sum_0 at hf
  refine g_iconst (v := (0 : Int32)) X dX12_sum_0 (by decide) ?_
  refine g_istore_n (lv' := [(2, vI (0 : Int32)), (1, vR x1)]) X dX12_sum_1 rfl (by decide) rfl ?_
  refine g_aload_n X dX12_sum_2 rfl rfl ?_
  refine g_astore_n (lv' := [(3, vR x1), (2, vI (0 : Int32)), (1, vR x1)]) X dX12_sum_3 rfl (by decide) rfl ?_
  refine g_aload_n X dX12_sum_4 rfl rfl ?_
  obtain ⟨a5, ha5, hf⟩ := dr_e hf
  obtain ⟨hT6, hf⟩ := ck_e hf
  refine g_alen (t0 := 0) X dX12_sum_5 ha5 hT6 (by decide) rfl ?_
  refine g_istore (lv' := [(4, vI (Int32.ofNat (mL M a5))), (3, vR x1), (2, vI (0 : Int32)), (1, vR x1)]) X dX12_sum_6 (by decide) rfl ?_
  refine g_iconst (v := (0 : Int32)) X dX12_sum_8 (by decide) ?_
  refine g_istore (lv' := [(5, vI (0 : Int32)), (4, vI (Int32.ofNat (mL M a5))), (3, vR x1), (2, vI (0 : Int32)), (1, vR x1)]) X dX12_sum_9 (by decide) rfl ?_
  refine g_sub (lvsub_of _ _ [3, 2, 1, 0] rfl) ?_
  exact tl_X12_sum_11 X hr _ _ _ _ _ _ hf hK
set_option maxHeartbeats 4000000 in
set_option maxRecDepth 100000 in
theorem m_X12_sum (l : Launch) {D : va_G} {cy : Nat → ClassId} {B : Nat} {H0 : Heap} {Z : Nat → Nat} {M M1 : gMem} {x0 : Nat} {x1 : Option Nat} {r : Int32} (hf : f_X12_sum M x0 x1 = some (r, M1)) : Met l yX12_sum wsX12_sum rX12_sum (va_Pc (Value.ref x0 :: List.map gv [vR x1]) (gPre D cy B H0 (gSt Z B H0) M)) (gQ D cy B H0 (some (vI r)) M1) 0 0 (gA B) := by
  refine Met.ofW (cc := cX12_sum) (maxL := 7) (ret := (some .int)) (by decide) rfl ?_
  intro p e s m args below meth c s₁ Bd hml hv
  obtain ⟨rfl, hW, hKK, hFs⟩ := hv
  have X : gX p s m _ meth c D cy B (gSt Z B H0) RX12 cX12_sum wsX12_sum 7 := ⟨Bd.exec, Bd.bytes, atoms_spec (ws := wsX12_sum) Bd.pre, findClass_of_methodNamed Bd.named, hml, hKK, by rw [hW.1]; exact hW.2.1, Bd.notSynchronized, hFs⟩
  have hr := Bd.returns
  rcases x1 with _ | x1
  · have hl := lv_entry ([.ref x0, .null]) (n := 7) (Nat.le_of_ble_eq_true rfl)
    show W p l e rX12_sum s m _ below meth c s.heap [] 0 0 _ (entryFrame m ([.ref x0, .null] : List Value).toArray 7)
    rw [lg_entry_eq]
    generalize (lg_sl ([.ref x0, .null]) ++ List.replicate (7 - (lg_sl ([.ref x0, .null])).length) Slot.unset).toArray = ls at hl ⊢
    have hl : lv_has ls 7 (List.map gq [(0, vR (some x0)), (1, vR none)]) := hl
    exact t_X12_sum_0 X hr _ _ _ hf rfl s.heap [] ls hW va_S.rf (lv_has_sub hl (lvsub_of _ _ [1] rfl))
  · have hl := lv_entry ([.ref x0, .ref x1]) (n := 7) (Nat.le_of_ble_eq_true rfl)
    show W p l e rX12_sum s m _ below meth c s.heap [] 0 0 _ (entryFrame m ([.ref x0, .ref x1] : List Value).toArray 7)
    rw [lg_entry_eq]
    generalize (lg_sl ([.ref x0, .ref x1]) ++ List.replicate (7 - (lg_sl ([.ref x0, .ref x1])).length) Slot.unset).toArray = ls at hl ⊢
    have hl : lv_has ls 7 (List.map gq [(0, vR (some x0)), (1, vR (some x1))]) := hl
    exact t_X12_sum_0 X hr _ _ _ hf rfl s.heap [] ls hW va_S.rf (lv_has_sub hl (lvsub_of _ _ [1] rfl))
/-! ## TideLotsModel$State.gap()I -/
theorem dX12_gap_0 : decode cX12_gap 0 = .ok (.ldc 92, 2) := by decide +kernel
theorem dX12_gap_2 : decode cX12_gap 2 = .ok (.istore_n 1, 1) := by decide +kernel
theorem dX12_gap_3 : decode cX12_gap 3 = .ok (.iconst 0, 1) := by decide +kernel
theorem dX12_gap_4 : decode cX12_gap 4 = .ok (.istore_n 2, 1) := by decide +kernel
theorem dX12_gap_5 : decode cX12_gap 5 = .ok (.iconst 0, 1) := by decide +kernel
theorem dX12_gap_6 : decode cX12_gap 6 = .ok (.istore_n 3, 1) := by decide +kernel
theorem dX12_gap_7 : decode cX12_gap 7 = .ok (.iload_n 3, 1) := by decide +kernel
theorem dX12_gap_8 : decode cX12_gap 8 = .ok (.aload_n 0, 1) := by decide +kernel
theorem dX12_gap_9 : decode cX12_gap 9 = .ok (.getfield 3, 3) := by decide +kernel
theorem dX12_gap_12 : decode cX12_gap 12 = .ok (.getfield 81, 3) := by decide +kernel
theorem dX12_gap_15 : decode cX12_gap 15 = .ok (.getfield 93, 3) := by decide +kernel
theorem dX12_gap_18 : decode cX12_gap 18 = .ok (.if_icmp .ge 31, 3) := by decide +kernel
theorem dX12_gap_21 : decode cX12_gap 21 = .ok (.iload_n 1, 1) := by decide +kernel
theorem dX12_gap_22 : decode cX12_gap 22 = .ok (.aload_n 0, 1) := by decide +kernel
theorem dX12_gap_23 : decode cX12_gap 23 = .ok (.getfield 32, 3) := by decide +kernel
theorem dX12_gap_26 : decode cX12_gap 26 = .ok (.iload_n 3, 1) := by decide +kernel
theorem dX12_gap_27 : decode cX12_gap 27 = .ok (.iaload, 1) := by decide +kernel
theorem dX12_gap_28 : decode cX12_gap 28 = .ok (.invokestatic 96, 3) := by decide +kernel
theorem dX12_gap_31 : decode cX12_gap 31 = .ok (.istore_n 1, 1) := by decide +kernel
theorem dX12_gap_32 : decode cX12_gap 32 = .ok (.iload_n 2, 1) := by decide +kernel
theorem dX12_gap_33 : decode cX12_gap 33 = .ok (.aload_n 0, 1) := by decide +kernel
theorem dX12_gap_34 : decode cX12_gap 34 = .ok (.getfield 32, 3) := by decide +kernel
theorem dX12_gap_37 : decode cX12_gap 37 = .ok (.iload_n 3, 1) := by decide +kernel
theorem dX12_gap_38 : decode cX12_gap 38 = .ok (.iaload, 1) := by decide +kernel
theorem dX12_gap_39 : decode cX12_gap 39 = .ok (.invokestatic 102, 3) := by decide +kernel
theorem dX12_gap_42 : decode cX12_gap 42 = .ok (.istore_n 2, 1) := by decide +kernel
theorem dX12_gap_43 : decode cX12_gap 43 = .ok (.iinc 3 1, 3) := by decide +kernel
theorem dX12_gap_46 : decode cX12_gap 46 = .ok (.goto (-39), 3) := by decide +kernel
theorem dX12_gap_49 : decode cX12_gap 49 = .ok (.aload_n 0, 1) := by decide +kernel
theorem dX12_gap_50 : decode cX12_gap 50 = .ok (.getfield 3, 3) := by decide +kernel
theorem dX12_gap_53 : decode cX12_gap 53 = .ok (.getfield 81, 3) := by decide +kernel
theorem dX12_gap_56 : decode cX12_gap 56 = .ok (.getfield 93, 3) := by decide +kernel
theorem dX12_gap_59 : decode cX12_gap 59 = .ok (.ifCond .ne 7, 3) := by decide +kernel
theorem dX12_gap_62 : decode cX12_gap 62 = .ok (.iconst 0, 1) := by decide +kernel
theorem dX12_gap_63 : decode cX12_gap 63 = .ok (.goto 6, 3) := by decide +kernel
theorem dX12_gap_66 : decode cX12_gap 66 = .ok (.iload_n 2, 1) := by decide +kernel
theorem dX12_gap_67 : decode cX12_gap 67 = .ok (.iload_n 1, 1) := by decide +kernel
theorem dX12_gap_68 : decode cX12_gap 68 = .ok (.isub, 1) := by decide +kernel
theorem dX12_gap_69 : decode cX12_gap 69 = .ok (.ireturn, 1) := by decide +kernel
theorem k_X12_gap_f3 : Cond.fieldLink RX12 3 "TideLotsModel$State" "this$0" "LTideLotsModel;" ∈ wsX12_gap := by decide +kernel
theorem i_X12_gap_X12 : ∀ w ∈ u_ws RX12 TX12 19, w ∈ wsX12_gap := by decide +kernel
theorem kn_X12_81 : Cond.fieldLinkNest "TideLotsModel$State" (81 : Nat) "TideLotsModel" "told" "LTideLotsModel$Told;" "TideLotsModel" ∈ gNs := by decide +kernel
theorem i_X12_gap_X14 : ∀ w ∈ u_ws RX14 TX14 15, w ∈ wsX12_gap := by decide +kernel
theorem kn_X12_93 : Cond.fieldLinkNest "TideLotsModel$State" (93 : Nat) "TideLotsModel$Told" "fishers" "I" "TideLotsModel" ∈ gNs := by decide +kernel
theorem i_X12_gap_X13 : ∀ w ∈ u_ws RX13 TX13 25, w ∈ wsX12_gap := by decide +kernel
theorem k_X12_gap_f32 : Cond.fieldLink RX12 32 "TideLotsModel$State" "store" "[I" ∈ wsX12_gap := by decide +kernel
theorem k_X12_gap_m96 : Cond.methodLink RX12 96 Lib.Math.min.name ∈ wsX12_gap := by decide +kernel
theorem k_X12_gap_mmins : Cond.static Lib.Math.min.name ∈ wsX12_gap := by decide +kernel
theorem k_X12_gap_mi : Cond.initialized "java/lang/Math" ∈ wsX12_gap := by decide +kernel
theorem k_X12_gap_mminc : Cond.code Lib.Math.min.name Lib.Math.min.code 2 (some .int) ∈ wsX12_gap := by decide +kernel
theorem k_X12_gap_m102 : Cond.methodLink RX12 102 Lib.Math.max.name ∈ wsX12_gap := by decide +kernel
theorem k_X12_gap_mmaxs : Cond.static Lib.Math.max.name ∈ wsX12_gap := by decide +kernel
theorem k_X12_gap_mmaxc : Cond.code Lib.Math.max.name Lib.Math.max.code 2 (some .int) ∈ wsX12_gap := by decide +kernel
theorem k_X12_gap_c92 : Jvm.Cond.constant RX12 92 (2147483647) ∈ wsX12_gap := by decide +kernel
abbrev rX12_gap : Room := { frames := 1, cells := 0, slots := 0, locals := 13 }
noncomputable def b_X12_gap_69 (M : gMem) (s0 : Int32) : Option (Int32 × gMem) :=
  some (s0, M)
noncomputable def bb_X12_gap_7 (M : gMem) (x0 : Nat) (x1 : Int32) (x2 : Int32) (x3 : Int32) : Option ((gMem × Int32 × Int32 × Int32) ⊕ (Int32 × gMem)) :=
  ck (mT M x0 = 11) <| dr ((mR M x0 18)) fun a2 => ck (mT M a2 = 13) <| dr ((mR M a2 11)) fun a4 => ck (mT M a4 = 12) <| (if (mI M a4 4) ≤ x3 then (if (mI M a4 4) = 0 then oI (b_X12_gap_69 M ((0 : Int32))) else oI (b_X12_gap_69 M ((x2 - x1)))) else dr ((mR M x0 6)) fun a8 => ck (mT M a8 = 20) <| ck (inb x3 (mL M a8)) <| ck (inb x3 (mL M a8)) <| some (.inl (M, (imin x1 ((mI M a8 x3.toNatClampNeg))), (imax x2 ((mI M a8 x3.toNatClampNeg))), (x3 + (1 : Int32)))))
noncomputable def lp_X12_gap_7 (M : gMem) (x0 : Nat) (x1 : Int32) (x2 : Int32) (x3 : Int32) : Option (Int32 × gMem) :=
  lp (fun (q : gMem × Int32 × Int32 × Int32) => bb_X12_gap_7 q.1 x0 q.2.1 q.2.2.1 q.2.2.2) (M, x1, x2, x3)
noncomputable def b_X12_gap_0 (M : gMem) (x0 : Nat) : Option (Int32 × gMem) :=
  lp_X12_gap_7 M x0 ((2147483647 : Int32)) ((0 : Int32)) ((0 : Int32))
noncomputable def f_X12_gap (M : gMem) (x0 : Nat) : Option (Int32 × gMem) :=
  b_X12_gap_0 M x0
set_option maxHeartbeats 4000000 in
set_option maxRecDepth 100000 in
theorem t_X12_gap_69 (X : gX p s m args meth c D cy B (gSt Z B H0) RX12 cX12_gap wsX12_gap 4) (hr : meth.sig.returnType = (some .int)) {Q : State → Prop} : ∀ (M : gMem) (s0 : Int32) (z : Int32 × gMem), b_X12_gap_69 M s0 = some z → (fun (r : Int32 × gMem) => Q = gMQ below D cy B H0 args s 0 0 (some (vI r.1)) r.2) z → gGo p l e rX12_gap s m args below meth c D cy B H0 4 0 0 Q 69 [] [vI s0] M := by
  intro M s0 z hf hK
  unfold b_X12_gap_69 at hf
  cases hf
  refine g_eqQ hK ?_
  exact g_iret X hr dX12_gap_69
set_option maxHeartbeats 4000000 in
set_option maxRecDepth 100000 in
theorem tb_X12_gap_7 (X : gX p s m args meth c D cy B (gSt Z B H0) RX12 cX12_gap wsX12_gap 4) (hr : meth.sig.returnType = (some .int)) {Q : State → Prop} : ∀ (M : gMem) (x0 : Nat) (x1 : Int32) (x2 : Int32) (x3 : Int32) (z : (gMem × Int32 × Int32 × Int32) ⊕ (Int32 × gMem)), bb_X12_gap_7 M x0 x1 x2 x3 = some z → (Sum.elim (fun (q : gMem × Int32 × Int32 × Int32) => gGo p l e rX12_gap s m args below meth c D cy B H0 4 0 0 Q 7 [(0, vR (some x0)), (1, vI q.2.1), (2, vI q.2.2.1), (3, vI q.2.2.2)] [] q.1) (fun (r : Int32 × gMem) => Q = gMQ below D cy B H0 args s 0 0 (some (vI r.1)) r.2)) z → gGo p l e rX12_gap s m args below meth c D cy B H0 4 0 0 Q 7 [(0, vR (some x0)), (1, vI x1), (2, vI x2), (3, vI x3)] [] M := by
  intro M x0 x1 x2 x3 z hf hK
  unfold bb_X12_gap_7 at hf
  refine g_iload_n X dX12_gap_7 rfl rfl ?_
  refine g_aload_n X dX12_gap_8 rfl rfl ?_
  obtain ⟨hT1, hf⟩ := ck_e hf
  refine g_get (ci := 10) (v := vR (mR M x0 18)) 18 X cdX12 i_X12_gap_X12 (by decide) k_X12_gap_f3 rfl dX12_gap_9 rfl hT1 rfl ?_
  obtain ⟨a2, ha2, hf⟩ := dr_e hf
  obtain ⟨hT3, hf⟩ := ck_e hf
  refine g_getN (ci := 12) (w := vR (mR M a2 11)) 11 X cdX14 i_X12_gap_X14 (by decide) (gNw X _ kn_X12_81) rfl dX12_gap_12 ha2 hT3 rfl ?_
  obtain ⟨a4, ha4, hf⟩ := dr_e hf
  obtain ⟨hT5, hf⟩ := ck_e hf
  refine g_getN (ci := 11) (w := vI (mI M a4 4)) 4 X cdX13 i_X12_gap_X13 (by decide) (gNw X _ kn_X12_93) rfl dX12_gap_15 ha4 hT5 rfl ?_
  refine g_icmp_ge (tgt := 49) X dX12_gap_18 (by decide) (fun hc => ?_) (fun hc => ?_)
  · have hf := ife_t hc hf
    refine g_aload_n X dX12_gap_49 rfl rfl ?_
    refine g_get (ci := 10) (v := vR (mR M x0 18)) 18 X cdX12 i_X12_gap_X12 (by decide) k_X12_gap_f3 rfl dX12_gap_50 rfl hT1 rfl ?_
    refine g_getN (ci := 12) (w := vR (mR M a2 11)) 11 X cdX14 i_X12_gap_X14 (by decide) (gNw X _ kn_X12_81) rfl dX12_gap_53 ha2 hT3 rfl ?_
    refine g_getN (ci := 11) (w := vI (mI M a4 4)) 4 X cdX13 i_X12_gap_X13 (by decide) (gNw X _ kn_X12_93) rfl dX12_gap_56 ha4 hT5 rfl ?_
    refine g_if_ne (tgt := 66) X dX12_gap_59 (by decide) (fun hc => ?_) (fun hc => ?_)
    · have hf := ife_f hc hf
      refine g_iload_n X dX12_gap_66 rfl rfl ?_
      refine g_iload_n X dX12_gap_67 rfl rfl ?_
      refine g_isub X dX12_gap_68 ?_
      obtain ⟨w6, hw6, hz6⟩ := oI_e hf
      subst hz6
      have hf := hw6
      refine g_sub (lvsub_of _ _ [] rfl) ?_
      exact t_X12_gap_69 X hr _ _ _ hf hK
    · have hf := ife_t hc hf
      refine g_iconst (v := (0 : Int32)) X dX12_gap_62 (by decide) ?_
      refine g_goto (tgt := 69) X dX12_gap_63 (by decide) ?_
      obtain ⟨w7, hw7, hz7⟩ := oI_e hf
      subst hz7
      have hf := hw7
      refine g_sub (lvsub_of _ _ [] rfl) ?_
      exact t_X12_gap_69 X hr _ _ _ hf hK
  · have hf := ife_f hc hf
    refine g_iload_n X dX12_gap_21 rfl rfl ?_
    refine g_aload_n X dX12_gap_22 rfl rfl ?_
    refine g_get (ci := 10) (v := vR (mR M x0 6)) 6 X cdX12 i_X12_gap_X12 (by decide) k_X12_gap_f32 rfl dX12_gap_23 rfl hT1 rfl ?_
    refine g_iload_n X dX12_gap_26 rfl rfl ?_
    obtain ⟨a8, ha8, hf⟩ := dr_e hf
    obtain ⟨hT9, hf⟩ := ck_e hf
    obtain ⟨hg10, hf⟩ := ck_e hf
    refine g_iald X dX12_gap_27 ha8 hT9 hg10 ?_
    refine g_min X k_X12_gap_m96 k_X12_gap_mmins k_X12_gap_mi k_X12_gap_mminc (Nat.le_of_ble_eq_true rfl) (Nat.le_of_ble_eq_true rfl) ⟨by decide, by decide⟩ dX12_gap_28 ?_
    refine g_istore_n (lv' := [(1, vI (imin x1 ((mI M a8 x3.toNatClampNeg)))), (0, vR (some x0)), (2, vI x2), (3, vI x3)]) X dX12_gap_31 rfl (by decide) rfl ?_
    refine g_iload_n X dX12_gap_32 rfl rfl ?_
    refine g_aload_n X dX12_gap_33 rfl rfl ?_
    refine g_get (ci := 10) (v := vR (mR M x0 6)) 6 X cdX12 i_X12_gap_X12 (by decide) k_X12_gap_f32 rfl dX12_gap_34 rfl hT1 rfl ?_
    refine g_iload_n X dX12_gap_37 rfl rfl ?_
    obtain ⟨hg11, hf⟩ := ck_e hf
    refine g_iald X dX12_gap_38 ha8 hT9 hg11 ?_
    refine g_max X k_X12_gap_m102 k_X12_gap_mmaxs k_X12_gap_mi k_X12_gap_mmaxc (Nat.le_of_ble_eq_true rfl) (Nat.le_of_ble_eq_true rfl) ⟨by decide, by decide⟩ dX12_gap_39 ?_
    refine g_istore_n (lv' := [(2, vI (imax x2 ((mI M a8 x3.toNatClampNeg)))), (1, vI (imin x1 ((mI M a8 x3.toNatClampNeg)))), (0, vR (some x0)), (3, vI x3)]) X dX12_gap_42 rfl (by decide) rfl ?_
    refine g_iinc (v := (1 : Int32)) (lv' := [(3, vI (x3 + (1 : Int32))), (2, vI (imax x2 ((mI M a8 x3.toNatClampNeg)))), (1, vI (imin x1 ((mI M a8 x3.toNatClampNeg)))), (0, vR (some x0))]) X dX12_gap_43 rfl (by decide) (by decide) rfl ?_
    refine g_goto (tgt := 7) X dX12_gap_46 (by decide) ?_
    cases hf
    refine g_sub (lvsub_of _ _ [3, 2, 1, 0] rfl) ?_
    exact hK
set_option maxHeartbeats 4000000 in
set_option maxRecDepth 100000 in
theorem tl_X12_gap_7 (X : gX p s m args meth c D cy B (gSt Z B H0) RX12 cX12_gap wsX12_gap 4) (hr : meth.sig.returnType = (some .int)) {Q : State → Prop} : ∀ (M : gMem) (x0 : Nat) (x1 : Int32) (x2 : Int32) (x3 : Int32) (z : Int32 × gMem), lp_X12_gap_7 M x0 x1 x2 x3 = some z → (fun (r : Int32 × gMem) => Q = gMQ below D cy B H0 args s 0 0 (some (vI r.1)) r.2) z → gGo p l e rX12_gap s m args below meth c D cy B H0 4 0 0 Q 7 [(0, vR (some x0)), (1, vI x1), (2, vI x2), (3, vI x3)] [] M := by
  intro M x0 x1 x2 x3 z hf hK
  refine lp_ind (P := (fun (q : gMem × Int32 × Int32 × Int32) (z : Int32 × gMem) => (fun (r : Int32 × gMem) => Q = gMQ below D cy B H0 args s 0 0 (some (vI r.1)) r.2) z → gGo p l e rX12_gap s m args below meth c D cy B H0 4 0 0 Q 7 [(0, vR (some x0)), (1, vI q.2.1), (2, vI q.2.2.1), (3, vI q.2.2.2)] [] q.1)) (fun q z hq => ?_) _ _ hf hK
  intro hK
  obtain ⟨w, hw, hm⟩ := hq
  refine tb_X12_gap_7 X hr _ _ _ _ _ w hw ?_
  cases w with
  | inl a => exact hm hK
  | inr b => cases hm; exact hK
set_option maxHeartbeats 4000000 in
set_option maxRecDepth 100000 in
theorem t_X12_gap_0 (X : gX p s m args meth c D cy B (gSt Z B H0) RX12 cX12_gap wsX12_gap 4) (hr : meth.sig.returnType = (some .int)) {Q : State → Prop} : ∀ (M : gMem) (x0 : Nat) (z : Int32 × gMem), b_X12_gap_0 M x0 = some z → (fun (r : Int32 × gMem) => Q = gMQ below D cy B H0 args s 0 0 (some (vI r.1)) r.2) z → gGo p l e rX12_gap s m args below meth c D cy B H0 4 0 0 Q 0 [(0, vR (some x0))] [] M := by
  intro M x0 z hf hK
  unfold b_X12_gap_0 at hf
  refine g_ldc (v := (2147483647 : Int32)) X k_X12_gap_c92 dX12_gap_0 ?_
  refine g_istore_n (lv' := [(1, vI (2147483647 : Int32)), (0, vR (some x0))]) X dX12_gap_2 rfl (by decide) rfl ?_
  refine g_iconst (v := (0 : Int32)) X dX12_gap_3 (by decide) ?_
  refine g_istore_n (lv' := [(2, vI (0 : Int32)), (1, vI (2147483647 : Int32)), (0, vR (some x0))]) X dX12_gap_4 rfl (by decide) rfl ?_
  refine g_iconst (v := (0 : Int32)) X dX12_gap_5 (by decide) ?_
  refine g_istore_n (lv' := [(3, vI (0 : Int32)), (2, vI (0 : Int32)), (1, vI (2147483647 : Int32)), (0, vR (some x0))]) X dX12_gap_6 rfl (by decide) rfl ?_
  refine g_sub (lvsub_of _ _ [3, 2, 1, 0] rfl) ?_
  exact tl_X12_gap_7 X hr _ _ _ _ _ _ hf hK
set_option maxHeartbeats 4000000 in
set_option maxRecDepth 100000 in
theorem m_X12_gap (l : Launch) {D : va_G} {cy : Nat → ClassId} {B : Nat} {H0 : Heap} {Z : Nat → Nat} {M M1 : gMem} {x0 : Nat} {r : Int32} (hf : f_X12_gap M x0 = some (r, M1)) : Met l yX12_gap wsX12_gap rX12_gap (va_Pc (Value.ref x0 :: List.map gv []) (gPre D cy B H0 (gSt Z B H0) M)) (gQ D cy B H0 (some (vI r)) M1) 0 0 (gA B) := by
  refine Met.ofW (cc := cX12_gap) (maxL := 4) (ret := (some .int)) (by decide) rfl ?_
  intro p e s m args below meth c s₁ Bd hml hv
  obtain ⟨rfl, hW, hKK, hFs⟩ := hv
  have X : gX p s m _ meth c D cy B (gSt Z B H0) RX12 cX12_gap wsX12_gap 4 := ⟨Bd.exec, Bd.bytes, atoms_spec (ws := wsX12_gap) Bd.pre, findClass_of_methodNamed Bd.named, hml, hKK, by rw [hW.1]; exact hW.2.1, Bd.notSynchronized, hFs⟩
  have hr := Bd.returns
  have hl := lv_entry ([.ref x0]) (n := 4) (Nat.le_of_ble_eq_true rfl)
  show W p l e rX12_gap s m _ below meth c s.heap [] 0 0 _ (entryFrame m ([.ref x0] : List Value).toArray 4)
  rw [lg_entry_eq]
  generalize (lg_sl ([.ref x0]) ++ List.replicate (4 - (lg_sl ([.ref x0])).length) Slot.unset).toArray = ls at hl ⊢
  have hl : lv_has ls 4 (List.map gq [(0, vR (some x0))]) := hl
  exact t_X12_gap_0 X hr _ _ _ hf rfl s.heap [] ls hW va_S.rf (lv_has_sub hl (lvsub_of _ _ [0] rfl))
/-! ## TideLotsModel$State.draw()V -/
theorem dX12_draw_0 : decode cX12_draw 0 = .ok (.iconst 0, 1) := by decide +kernel
theorem dX12_draw_1 : decode cX12_draw 1 = .ok (.istore_n 1, 1) := by decide +kernel
theorem dX12_draw_2 : decode cX12_draw 2 = .ok (.iload_n 1, 1) := by decide +kernel
theorem dX12_draw_3 : decode cX12_draw 3 = .ok (.aload_n 0, 1) := by decide +kernel
theorem dX12_draw_4 : decode cX12_draw 4 = .ok (.getfield 3, 3) := by decide +kernel
theorem dX12_draw_7 : decode cX12_draw 7 = .ok (.getfield 81, 3) := by decide +kernel
theorem dX12_draw_10 : decode cX12_draw 10 = .ok (.getfield 93, 3) := by decide +kernel
theorem dX12_draw_13 : decode cX12_draw 13 = .ok (.if_icmp .ge 16, 3) := by decide +kernel
theorem dX12_draw_16 : decode cX12_draw 16 = .ok (.aload_n 0, 1) := by decide +kernel
theorem dX12_draw_17 : decode cX12_draw 17 = .ok (.getfield 59, 3) := by decide +kernel
theorem dX12_draw_20 : decode cX12_draw 20 = .ok (.iload_n 1, 1) := by decide +kernel
theorem dX12_draw_21 : decode cX12_draw 21 = .ok (.iload_n 1, 1) := by decide +kernel
theorem dX12_draw_22 : decode cX12_draw 22 = .ok (.iastore, 1) := by decide +kernel
theorem dX12_draw_23 : decode cX12_draw 23 = .ok (.iinc 1 1, 3) := by decide +kernel
theorem dX12_draw_26 : decode cX12_draw 26 = .ok (.goto (-24), 3) := by decide +kernel
theorem dX12_draw_29 : decode cX12_draw 29 = .ok (.iconst 0, 1) := by decide +kernel
theorem dX12_draw_30 : decode cX12_draw 30 = .ok (.istore_n 1, 1) := by decide +kernel
theorem dX12_draw_31 : decode cX12_draw 31 = .ok (.iload_n 1, 1) := by decide +kernel
theorem dX12_draw_32 : decode cX12_draw 32 = .ok (.aload_n 0, 1) := by decide +kernel
theorem dX12_draw_33 : decode cX12_draw 33 = .ok (.getfield 3, 3) := by decide +kernel
theorem dX12_draw_36 : decode cX12_draw 36 = .ok (.getfield 81, 3) := by decide +kernel
theorem dX12_draw_39 : decode cX12_draw 39 = .ok (.getfield 93, 3) := by decide +kernel
theorem dX12_draw_42 : decode cX12_draw 42 = .ok (.if_icmp .ge 77, 3) := by decide +kernel
theorem dX12_draw_45 : decode cX12_draw 45 = .ok (.aload_n 0, 1) := by decide +kernel
theorem dX12_draw_46 : decode cX12_draw 46 = .ok (.aload_n 0, 1) := by decide +kernel
theorem dX12_draw_47 : decode cX12_draw 47 = .ok (.getfield 15, 3) := by decide +kernel
theorem dX12_draw_50 : decode cX12_draw 50 = .ok (.ldc 105, 2) := by decide +kernel
theorem dX12_draw_52 : decode cX12_draw 52 = .ok (.imul, 1) := by decide +kernel
theorem dX12_draw_53 : decode cX12_draw 53 = .ok (.iconst 1, 1) := by decide +kernel
theorem dX12_draw_54 : decode cX12_draw 54 = .ok (.iadd, 1) := by decide +kernel
theorem dX12_draw_55 : decode cX12_draw 55 = .ok (.putfield 15, 3) := by decide +kernel
theorem dX12_draw_58 : decode cX12_draw 58 = .ok (.aload_n 0, 1) := by decide +kernel
theorem dX12_draw_59 : decode cX12_draw 59 = .ok (.getfield 3, 3) := by decide +kernel
theorem dX12_draw_62 : decode cX12_draw 62 = .ok (.getfield 81, 3) := by decide +kernel
theorem dX12_draw_65 : decode cX12_draw 65 = .ok (.getfield 93, 3) := by decide +kernel
theorem dX12_draw_68 : decode cX12_draw 68 = .ok (.iload_n 1, 1) := by decide +kernel
theorem dX12_draw_69 : decode cX12_draw 69 = .ok (.isub, 1) := by decide +kernel
theorem dX12_draw_70 : decode cX12_draw 70 = .ok (.istore_n 2, 1) := by decide +kernel
theorem dX12_draw_71 : decode cX12_draw 71 = .ok (.aload_n 0, 1) := by decide +kernel
theorem dX12_draw_72 : decode cX12_draw 72 = .ok (.getfield 15, 3) := by decide +kernel
theorem dX12_draw_75 : decode cX12_draw 75 = .ok (.bipush 16, 2) := by decide +kernel
theorem dX12_draw_77 : decode cX12_draw 77 = .ok (.iushr, 1) := by decide +kernel
theorem dX12_draw_78 : decode cX12_draw 78 = .ok (.iload_n 2, 1) := by decide +kernel
theorem dX12_draw_79 : decode cX12_draw 79 = .ok (.irem, 1) := by decide +kernel
theorem dX12_draw_80 : decode cX12_draw 80 = .ok (.istore_n 3, 1) := by decide +kernel
theorem dX12_draw_81 : decode cX12_draw 81 = .ok (.aload_n 0, 1) := by decide +kernel
theorem dX12_draw_82 : decode cX12_draw 82 = .ok (.getfield 56, 3) := by decide +kernel
theorem dX12_draw_85 : decode cX12_draw 85 = .ok (.iload_n 1, 1) := by decide +kernel
theorem dX12_draw_86 : decode cX12_draw 86 = .ok (.aload_n 0, 1) := by decide +kernel
theorem dX12_draw_87 : decode cX12_draw 87 = .ok (.getfield 59, 3) := by decide +kernel
theorem dX12_draw_90 : decode cX12_draw 90 = .ok (.iload_n 3, 1) := by decide +kernel
theorem dX12_draw_91 : decode cX12_draw 91 = .ok (.iaload, 1) := by decide +kernel
theorem dX12_draw_92 : decode cX12_draw 92 = .ok (.iastore, 1) := by decide +kernel
theorem dX12_draw_93 : decode cX12_draw 93 = .ok (.aload_n 0, 1) := by decide +kernel
theorem dX12_draw_94 : decode cX12_draw 94 = .ok (.getfield 59, 3) := by decide +kernel
theorem dX12_draw_97 : decode cX12_draw 97 = .ok (.iload_n 3, 1) := by decide +kernel
theorem dX12_draw_98 : decode cX12_draw 98 = .ok (.iconst 1, 1) := by decide +kernel
theorem dX12_draw_99 : decode cX12_draw 99 = .ok (.iadd, 1) := by decide +kernel
theorem dX12_draw_100 : decode cX12_draw 100 = .ok (.aload_n 0, 1) := by decide +kernel
theorem dX12_draw_101 : decode cX12_draw 101 = .ok (.getfield 59, 3) := by decide +kernel
theorem dX12_draw_104 : decode cX12_draw 104 = .ok (.iload_n 3, 1) := by decide +kernel
theorem dX12_draw_105 : decode cX12_draw 105 = .ok (.iload_n 2, 1) := by decide +kernel
theorem dX12_draw_106 : decode cX12_draw 106 = .ok (.iload_n 3, 1) := by decide +kernel
theorem dX12_draw_107 : decode cX12_draw 107 = .ok (.isub, 1) := by decide +kernel
theorem dX12_draw_108 : decode cX12_draw 108 = .ok (.iconst 1, 1) := by decide +kernel
theorem dX12_draw_109 : decode cX12_draw 109 = .ok (.isub, 1) := by decide +kernel
theorem dX12_draw_110 : decode cX12_draw 110 = .ok (.invokestatic 68, 3) := by decide +kernel
theorem dX12_draw_113 : decode cX12_draw 113 = .ok (.iinc 1 1, 3) := by decide +kernel
theorem dX12_draw_116 : decode cX12_draw 116 = .ok (.goto (-85), 3) := by decide +kernel
theorem dX12_draw_119 : decode cX12_draw 119 = .ok (.return_, 1) := by decide +kernel
theorem k_X12_draw_f3 : Cond.fieldLink RX12 3 "TideLotsModel$State" "this$0" "LTideLotsModel;" ∈ wsX12_draw := by decide +kernel
theorem i_X12_draw_X12 : ∀ w ∈ u_ws RX12 TX12 19, w ∈ wsX12_draw := by decide +kernel
theorem i_X12_draw_X14 : ∀ w ∈ u_ws RX14 TX14 15, w ∈ wsX12_draw := by decide +kernel
theorem i_X12_draw_X13 : ∀ w ∈ u_ws RX13 TX13 25, w ∈ wsX12_draw := by decide +kernel
theorem k_X12_draw_f15 : Cond.fieldLink RX12 15 "TideLotsModel$State" "l" "I" ∈ wsX12_draw := by decide +kernel
theorem k_X12_draw_c105 : Jvm.Cond.constant RX12 105 (69069) ∈ wsX12_draw := by decide +kernel
theorem k_X12_draw_f56 : Cond.fieldLink RX12 56 "TideLotsModel$State" "lots" "[I" ∈ wsX12_draw := by decide +kernel
theorem k_X12_draw_f59 : Cond.fieldLink RX12 59 "TideLotsModel$State" "row" "[I" ∈ wsX12_draw := by decide +kernel
theorem k_X12_draw_ac68 : Cond.methodLink RX12 68 arraycopyName ∈ wsX12_draw := by decide +kernel
theorem k_X12_draw_acn : Cond.native arraycopyName ∈ wsX12_draw := by decide +kernel
theorem k_X12_draw_acs : Cond.static arraycopyName ∈ wsX12_draw := by decide +kernel
theorem k_X12_draw_aci : Cond.initialized "java/lang/System" ∈ wsX12_draw := by decide +kernel
abbrev rX12_draw : Room := { frames := 1, cells := 0, slots := 0, locals := 60 }
noncomputable def bb_X12_draw_31 (M : gMem) (x0 : Nat) (x1 : Int32) : Option ((gMem × Int32) ⊕ (Unit × gMem)) :=
  ck (mT M x0 = 11) <| dr ((mR M x0 18)) fun a2 => ck (mT M a2 = 13) <| dr ((mR M a2 11)) fun a4 => ck (mT M a4 = 12) <| (if (mI M a4 4) ≤ x1 then oI (some ((), M)) else lw (wI M x0 1 ((((mI M x0 1) * (69069 : Int32)) + (1 : Int32)))) fun M7 => dr ((mR M7 x0 18)) fun a11 => ck (mT M7 a11 = 13) <| dr ((mR M7 a11 11)) fun a13 => ck (mT M7 a13 = 12) <| ck (¬ ((mI M7 a13 4) - x1) = 0) <| dr ((mR M7 x0 15)) fun a16 => ck (mT M7 a16 = 20) <| ck (inb ((ushr ((mI M7 x0 1)) ((16 : Int32))) - (ushr ((mI M7 x0 1)) ((16 : Int32))) / ((mI M7 a13 4) - x1) * ((mI M7 a13 4) - x1)) (mL M7 a16)) <| dr ((mR M7 x0 14)) fun a19 => ck (mT M7 a19 = 20) <| ck (inb x1 (mL M7 a19)) <| lw (wI M7 a19 x1.toNatClampNeg ((mI M7 a16 (((ushr ((mI M7 x0 1)) ((16 : Int32))) - (ushr ((mI M7 x0 1)) ((16 : Int32))) / ((mI M7 a13 4) - x1) * ((mI M7 a13 4) - x1))).toNatClampNeg))) fun M22 => dr ((mR M22 x0 15)) fun a30 => ck (mT M22 a30 = 20) <| ck (¬ (((ushr ((mI M7 x0 1)) ((16 : Int32))) - (ushr ((mI M7 x0 1)) ((16 : Int32))) / ((mI M7 a13 4) - x1) * ((mI M7 a13 4) - x1)) + (1 : Int32)) < 0) <| ck (¬ ((ushr ((mI M7 x0 1)) ((16 : Int32))) - (ushr ((mI M7 x0 1)) ((16 : Int32))) / ((mI M7 a13 4) - x1) * ((mI M7 a13 4) - x1)) < 0) <| ck (¬ ((((mI M7 a13 4) - x1) - ((ushr ((mI M7 x0 1)) ((16 : Int32))) - (ushr ((mI M7 x0 1)) ((16 : Int32))) / ((mI M7 a13 4) - x1) * ((mI M7 a13 4) - x1))) - (1 : Int32)) < 0) <| ck (((((ushr ((mI M7 x0 1)) ((16 : Int32))) - (ushr ((mI M7 x0 1)) ((16 : Int32))) / ((mI M7 a13 4) - x1) * ((mI M7 a13 4) - x1)) + (1 : Int32))).toNatClampNeg + (((((mI M7 a13 4) - x1) - ((ushr ((mI M7 x0 1)) ((16 : Int32))) - (ushr ((mI M7 x0 1)) ((16 : Int32))) / ((mI M7 a13 4) - x1) * ((mI M7 a13 4) - x1))) - (1 : Int32))).toNatClampNeg ≤ mL M22 a30) <| ck ((((ushr ((mI M7 x0 1)) ((16 : Int32))) - (ushr ((mI M7 x0 1)) ((16 : Int32))) / ((mI M7 a13 4) - x1) * ((mI M7 a13 4) - x1))).toNatClampNeg + (((((mI M7 a13 4) - x1) - ((ushr ((mI M7 x0 1)) ((16 : Int32))) - (ushr ((mI M7 x0 1)) ((16 : Int32))) / ((mI M7 a13 4) - x1) * ((mI M7 a13 4) - x1))) - (1 : Int32))).toNatClampNeg ≤ mL M22 a30) <| lw (cpI M22 a30 ((((ushr ((mI M7 x0 1)) ((16 : Int32))) - (ushr ((mI M7 x0 1)) ((16 : Int32))) / ((mI M7 a13 4) - x1) * ((mI M7 a13 4) - x1)) + (1 : Int32))).toNatClampNeg a30 (((ushr ((mI M7 x0 1)) ((16 : Int32))) - (ushr ((mI M7 x0 1)) ((16 : Int32))) / ((mI M7 a13 4) - x1) * ((mI M7 a13 4) - x1))).toNatClampNeg (((((mI M7 a13 4) - x1) - ((ushr ((mI M7 x0 1)) ((16 : Int32))) - (ushr ((mI M7 x0 1)) ((16 : Int32))) / ((mI M7 a13 4) - x1) * ((mI M7 a13 4) - x1))) - (1 : Int32))).toNatClampNeg) fun M37 => some (.inl (M37, (x1 + (1 : Int32)))))
noncomputable def lp_X12_draw_31 (M : gMem) (x0 : Nat) (x1 : Int32) : Option (Unit × gMem) :=
  lp (fun (q : gMem × Int32) => bb_X12_draw_31 q.1 x0 q.2) (M, x1)
noncomputable def bb_X12_draw_2 (M : gMem) (x0 : Nat) (x1 : Int32) : Option ((gMem × Int32) ⊕ (Unit × gMem)) :=
  ck (mT M x0 = 11) <| dr ((mR M x0 18)) fun a47 => ck (mT M a47 = 13) <| dr ((mR M a47 11)) fun a49 => ck (mT M a49 = 12) <| (if (mI M a49 4) ≤ x1 then oI (lp_X12_draw_31 M x0 ((0 : Int32))) else dr ((mR M x0 15)) fun a52 => ck (mT M a52 = 20) <| ck (inb x1 (mL M a52)) <| lw (wI M a52 x1.toNatClampNeg x1) fun M55 => some (.inl (M55, (x1 + (1 : Int32)))))
noncomputable def lp_X12_draw_2 (M : gMem) (x0 : Nat) (x1 : Int32) : Option (Unit × gMem) :=
  lp (fun (q : gMem × Int32) => bb_X12_draw_2 q.1 x0 q.2) (M, x1)
noncomputable def b_X12_draw_0 (M : gMem) (x0 : Nat) : Option (Unit × gMem) :=
  lp_X12_draw_2 M x0 ((0 : Int32))
noncomputable def f_X12_draw (M : gMem) (x0 : Nat) : Option (Unit × gMem) :=
  b_X12_draw_0 M x0
set_option maxHeartbeats 4000000 in
set_option maxRecDepth 100000 in
theorem tb_X12_draw_31 (X : gX p s m args meth c D cy B (gSt Z B H0) RX12 cX12_draw wsX12_draw 4) (hr : meth.sig.returnType = none) {Q : State → Prop} : ∀ (M : gMem) (x0 : Nat) (x1 : Int32) (z : (gMem × Int32) ⊕ (Unit × gMem)), bb_X12_draw_31 M x0 x1 = some z → (Sum.elim (fun (q : gMem × Int32) => gGo p l e rX12_draw s m args below meth c D cy B H0 4 0 0 Q 31 [(0, vR (some x0)), (1, vI q.2)] [] q.1) (fun (r : Unit × gMem) => Q = gMQ below D cy B H0 args s 0 0 none r.2)) z → gGo p l e rX12_draw s m args below meth c D cy B H0 4 0 0 Q 31 [(0, vR (some x0)), (1, vI x1)] [] M := by
  intro M x0 x1 z hf hK
  unfold bb_X12_draw_31 at hf
  refine g_iload_n X dX12_draw_31 rfl rfl ?_
  refine g_aload_n X dX12_draw_32 rfl rfl ?_
  obtain ⟨hT1, hf⟩ := ck_e hf
  refine g_get (ci := 10) (v := vR (mR M x0 18)) 18 X cdX12 i_X12_draw_X12 (by decide) k_X12_draw_f3 rfl dX12_draw_33 rfl hT1 rfl ?_
  obtain ⟨a2, ha2, hf⟩ := dr_e hf
  obtain ⟨hT3, hf⟩ := ck_e hf
  refine g_getN (ci := 12) (w := vR (mR M a2 11)) 11 X cdX14 i_X12_draw_X14 (by decide) (gNw X _ kn_X12_81) rfl dX12_draw_36 ha2 hT3 rfl ?_
  obtain ⟨a4, ha4, hf⟩ := dr_e hf
  obtain ⟨hT5, hf⟩ := ck_e hf
  refine g_getN (ci := 11) (w := vI (mI M a4 4)) 4 X cdX13 i_X12_draw_X13 (by decide) (gNw X _ kn_X12_93) rfl dX12_draw_39 ha4 hT5 rfl ?_
  refine g_icmp_ge (tgt := 119) X dX12_draw_42 (by decide) (fun hc => ?_) (fun hc => ?_)
  · have hf := ife_t hc hf
    obtain ⟨w6, hw6, hz6⟩ := oI_e hf
    subst hz6
    have hf := hw6
    cases hf
    refine g_eqQ hK ?_
    exact g_vret X hr dX12_draw_119
  · have hf := ife_f hc hf
    refine g_aload_n X dX12_draw_45 rfl rfl ?_
    refine g_aload_n X dX12_draw_46 rfl rfl ?_
    refine g_get (ci := 10) (v := vI (mI M x0 1)) 1 X cdX12 i_X12_draw_X12 (by decide) k_X12_draw_f15 rfl dX12_draw_47 rfl hT1 rfl ?_
    refine g_ldc (v := (69069 : Int32)) X k_X12_draw_c105 dX12_draw_50 ?_
    refine g_imul X dX12_draw_52 ?_
    refine g_iconst (v := (1 : Int32)) X dX12_draw_53 (by decide) ?_
    refine g_iadd X dX12_draw_54 ?_
    refine g_putI (ci := 10) 1 X cdX12 i_X12_draw_X12 (by decide) k_X12_draw_f15 rfl dX12_draw_55 rfl hT1 (Or.inl rfl) rfl rfl rfl ?_
    obtain ⟨M7, hM7, hf⟩ := lw_e hf
    rw [← hM7]
    have hT8 : mT M7 x0 = 11 := by rw [hM7]; exact hT1
    have hT9 : mT M7 a2 = 13 := by rw [hM7]; exact hT3
    have hT10 : mT M7 a4 = 12 := by rw [hM7]; exact hT5
    refine g_aload_n X dX12_draw_58 rfl rfl ?_
    refine g_get (ci := 10) (v := vR (mR M7 x0 18)) 18 X cdX12 i_X12_draw_X12 (by decide) k_X12_draw_f3 rfl dX12_draw_59 rfl hT8 rfl ?_
    obtain ⟨a11, ha11, hf⟩ := dr_e hf
    obtain ⟨hT12, hf⟩ := ck_e hf
    refine g_getN (ci := 12) (w := vR (mR M7 a11 11)) 11 X cdX14 i_X12_draw_X14 (by decide) (gNw X _ kn_X12_81) rfl dX12_draw_62 ha11 hT12 rfl ?_
    obtain ⟨a13, ha13, hf⟩ := dr_e hf
    obtain ⟨hT14, hf⟩ := ck_e hf
    refine g_getN (ci := 11) (w := vI (mI M7 a13 4)) 4 X cdX13 i_X12_draw_X13 (by decide) (gNw X _ kn_X12_93) rfl dX12_draw_65 ha13 hT14 rfl ?_
    refine g_iload_n X dX12_draw_68 rfl rfl ?_
    refine g_isub X dX12_draw_69 ?_
    refine g_istore_n (lv' := [(2, vI ((mI M7 a13 4) - x1)), (0, vR (some x0)), (1, vI x1)]) X dX12_draw_70 rfl (by decide) rfl ?_
    refine g_aload_n X dX12_draw_71 rfl rfl ?_
    refine g_get (ci := 10) (v := vI (mI M7 x0 1)) 1 X cdX12 i_X12_draw_X12 (by decide) k_X12_draw_f15 rfl dX12_draw_72 rfl hT8 rfl ?_
    refine g_bipush (v := (16 : Int32)) X dX12_draw_75 (by decide) ?_
    refine g_iushr X dX12_draw_77 ?_
    refine g_iload_n X dX12_draw_78 rfl rfl ?_
    obtain ⟨hg15, hf⟩ := ck_e hf
    refine g_irem X dX12_draw_79 hg15 ?_
    refine g_istore_n (lv' := [(3, vI ((ushr ((mI M7 x0 1)) ((16 : Int32))) - (ushr ((mI M7 x0 1)) ((16 : Int32))) / ((mI M7 a13 4) - x1) * ((mI M7 a13 4) - x1))), (2, vI ((mI M7 a13 4) - x1)), (0, vR (some x0)), (1, vI x1)]) X dX12_draw_80 rfl (by decide) rfl ?_
    refine g_aload_n X dX12_draw_81 rfl rfl ?_
    refine g_get (ci := 10) (v := vR (mR M7 x0 14)) 14 X cdX12 i_X12_draw_X12 (by decide) k_X12_draw_f56 rfl dX12_draw_82 rfl hT8 rfl ?_
    refine g_iload_n X dX12_draw_85 rfl rfl ?_
    refine g_aload_n X dX12_draw_86 rfl rfl ?_
    refine g_get (ci := 10) (v := vR (mR M7 x0 15)) 15 X cdX12 i_X12_draw_X12 (by decide) k_X12_draw_f59 rfl dX12_draw_87 rfl hT8 rfl ?_
    refine g_iload_n X dX12_draw_90 rfl rfl ?_
    obtain ⟨a16, ha16, hf⟩ := dr_e hf
    obtain ⟨hT17, hf⟩ := ck_e hf
    obtain ⟨hg18, hf⟩ := ck_e hf
    refine g_iald X dX12_draw_91 ha16 hT17 hg18 ?_
    obtain ⟨a19, ha19, hf⟩ := dr_e hf
    obtain ⟨hT20, hf⟩ := ck_e hf
    obtain ⟨hg21, hf⟩ := ck_e hf
    refine g_iast X dX12_draw_92 ha19 hT20 hg21 ?_
    obtain ⟨M22, hM22, hf⟩ := lw_e hf
    rw [← hM22]
    have hT23 : mT M22 x0 = 11 := by rw [hM22]; exact hT8
    have hT24 : mT M22 a2 = 13 := by rw [hM22]; exact hT9
    have hT25 : mT M22 a4 = 12 := by rw [hM22]; exact hT10
    have hT26 : mT M22 a11 = 13 := by rw [hM22]; exact hT12
    have hT27 : mT M22 a13 = 12 := by rw [hM22]; exact hT14
    have hT28 : mT M22 a16 = 20 := by rw [hM22]; exact hT17
    have hT29 : mT M22 a19 = 20 := by rw [hM22]; exact hT20
    refine g_aload_n X dX12_draw_93 rfl rfl ?_
    refine g_get (ci := 10) (v := vR (mR M22 x0 15)) 15 X cdX12 i_X12_draw_X12 (by decide) k_X12_draw_f59 rfl dX12_draw_94 rfl hT23 rfl ?_
    refine g_iload_n X dX12_draw_97 rfl rfl ?_
    refine g_iconst (v := (1 : Int32)) X dX12_draw_98 (by decide) ?_
    refine g_iadd X dX12_draw_99 ?_
    refine g_aload_n X dX12_draw_100 rfl rfl ?_
    refine g_get (ci := 10) (v := vR (mR M22 x0 15)) 15 X cdX12 i_X12_draw_X12 (by decide) k_X12_draw_f59 rfl dX12_draw_101 rfl hT23 rfl ?_
    refine g_iload_n X dX12_draw_104 rfl rfl ?_
    refine g_iload_n X dX12_draw_105 rfl rfl ?_
    refine g_iload_n X dX12_draw_106 rfl rfl ?_
    refine g_isub X dX12_draw_107 ?_
    refine g_iconst (v := (1 : Int32)) X dX12_draw_108 (by decide) ?_
    refine g_isub X dX12_draw_109 ?_
    obtain ⟨a30, ha30, hf⟩ := dr_e hf
    obtain ⟨hT31, hf⟩ := ck_e hf
    obtain ⟨hg32, hf⟩ := ck_e hf
    obtain ⟨hg33, hf⟩ := ck_e hf
    obtain ⟨hg34, hf⟩ := ck_e hf
    obtain ⟨hg35, hf⟩ := ck_e hf
    obtain ⟨hg36, hf⟩ := ck_e hf
    refine g_copy X k_X12_draw_ac68 k_X12_draw_acn k_X12_draw_acs k_X12_draw_aci ha30 ha30 hT31 hT31 hg32 hg33 hg34 hg35 hg36 (Nat.le_of_ble_eq_true rfl) (Nat.le_of_ble_eq_true rfl) dX12_draw_110 ?_
    obtain ⟨M37, hM37, hf⟩ := lw_e hf
    rw [← hM37]
    have hT38 : mT M37 x0 = 11 := by rw [hM37]; exact hT23
    have hT39 : mT M37 a2 = 13 := by rw [hM37]; exact hT24
    have hT40 : mT M37 a4 = 12 := by rw [hM37]; exact hT25
    have hT41 : mT M37 a11 = 13 := by rw [hM37]; exact hT26
    have hT42 : mT M37 a13 = 12 := by rw [hM37]; exact hT27
    have hT43 : mT M37 a16 = 20 := by rw [hM37]; exact hT28
    have hT44 : mT M37 a19 = 20 := by rw [hM37]; exact hT29
    have hT45 : mT M37 a30 = 20 := by rw [hM37]; exact hT31
    refine g_iinc (v := (1 : Int32)) (lv' := [(1, vI (x1 + (1 : Int32))), (3, vI ((ushr ((mI M7 x0 1)) ((16 : Int32))) - (ushr ((mI M7 x0 1)) ((16 : Int32))) / ((mI M7 a13 4) - x1) * ((mI M7 a13 4) - x1))), (2, vI ((mI M7 a13 4) - x1)), (0, vR (some x0))]) X dX12_draw_113 rfl (by decide) (by decide) rfl ?_
    refine g_goto (tgt := 31) X dX12_draw_116 (by decide) ?_
    cases hf
    refine g_sub (lvsub_of _ _ [3, 0] rfl) ?_
    exact hK
set_option maxHeartbeats 4000000 in
set_option maxRecDepth 100000 in
theorem tl_X12_draw_31 (X : gX p s m args meth c D cy B (gSt Z B H0) RX12 cX12_draw wsX12_draw 4) (hr : meth.sig.returnType = none) {Q : State → Prop} : ∀ (M : gMem) (x0 : Nat) (x1 : Int32) (z : Unit × gMem), lp_X12_draw_31 M x0 x1 = some z → (fun (r : Unit × gMem) => Q = gMQ below D cy B H0 args s 0 0 none r.2) z → gGo p l e rX12_draw s m args below meth c D cy B H0 4 0 0 Q 31 [(0, vR (some x0)), (1, vI x1)] [] M := by
  intro M x0 x1 z hf hK
  refine lp_ind (P := (fun (q : gMem × Int32) (z : Unit × gMem) => (fun (r : Unit × gMem) => Q = gMQ below D cy B H0 args s 0 0 none r.2) z → gGo p l e rX12_draw s m args below meth c D cy B H0 4 0 0 Q 31 [(0, vR (some x0)), (1, vI q.2)] [] q.1)) (fun q z hq => ?_) _ _ hf hK
  intro hK
  obtain ⟨w, hw, hm⟩ := hq
  refine tb_X12_draw_31 X hr _ _ _ w hw ?_
  cases w with
  | inl a => exact hm hK
  | inr b => cases hm; exact hK
set_option maxHeartbeats 4000000 in
set_option maxRecDepth 100000 in
theorem tb_X12_draw_2 (X : gX p s m args meth c D cy B (gSt Z B H0) RX12 cX12_draw wsX12_draw 4) (hr : meth.sig.returnType = none) {Q : State → Prop} : ∀ (M : gMem) (x0 : Nat) (x1 : Int32) (z : (gMem × Int32) ⊕ (Unit × gMem)), bb_X12_draw_2 M x0 x1 = some z → (Sum.elim (fun (q : gMem × Int32) => gGo p l e rX12_draw s m args below meth c D cy B H0 4 0 0 Q 2 [(0, vR (some x0)), (1, vI q.2)] [] q.1) (fun (r : Unit × gMem) => Q = gMQ below D cy B H0 args s 0 0 none r.2)) z → gGo p l e rX12_draw s m args below meth c D cy B H0 4 0 0 Q 2 [(0, vR (some x0)), (1, vI x1)] [] M := by
  intro M x0 x1 z hf hK
  unfold bb_X12_draw_2 at hf
  refine g_iload_n X dX12_draw_2 rfl rfl ?_
  refine g_aload_n X dX12_draw_3 rfl rfl ?_
  obtain ⟨hT46, hf⟩ := ck_e hf
  refine g_get (ci := 10) (v := vR (mR M x0 18)) 18 X cdX12 i_X12_draw_X12 (by decide) k_X12_draw_f3 rfl dX12_draw_4 rfl hT46 rfl ?_
  obtain ⟨a47, ha47, hf⟩ := dr_e hf
  obtain ⟨hT48, hf⟩ := ck_e hf
  refine g_getN (ci := 12) (w := vR (mR M a47 11)) 11 X cdX14 i_X12_draw_X14 (by decide) (gNw X _ kn_X12_81) rfl dX12_draw_7 ha47 hT48 rfl ?_
  obtain ⟨a49, ha49, hf⟩ := dr_e hf
  obtain ⟨hT50, hf⟩ := ck_e hf
  refine g_getN (ci := 11) (w := vI (mI M a49 4)) 4 X cdX13 i_X12_draw_X13 (by decide) (gNw X _ kn_X12_93) rfl dX12_draw_10 ha49 hT50 rfl ?_
  refine g_icmp_ge (tgt := 29) X dX12_draw_13 (by decide) (fun hc => ?_) (fun hc => ?_)
  · have hf := ife_t hc hf
    refine g_iconst (v := (0 : Int32)) X dX12_draw_29 (by decide) ?_
    refine g_istore_n (lv' := [(1, vI (0 : Int32)), (0, vR (some x0))]) X dX12_draw_30 rfl (by decide) rfl ?_
    obtain ⟨w51, hw51, hz51⟩ := oI_e hf
    subst hz51
    have hf := hw51
    refine g_sub (lvsub_of _ _ [1, 0] rfl) ?_
    exact tl_X12_draw_31 X hr _ _ _ _ hf hK
  · have hf := ife_f hc hf
    refine g_aload_n X dX12_draw_16 rfl rfl ?_
    refine g_get (ci := 10) (v := vR (mR M x0 15)) 15 X cdX12 i_X12_draw_X12 (by decide) k_X12_draw_f59 rfl dX12_draw_17 rfl hT46 rfl ?_
    refine g_iload_n X dX12_draw_20 rfl rfl ?_
    refine g_iload_n X dX12_draw_21 rfl rfl ?_
    obtain ⟨a52, ha52, hf⟩ := dr_e hf
    obtain ⟨hT53, hf⟩ := ck_e hf
    obtain ⟨hg54, hf⟩ := ck_e hf
    refine g_iast X dX12_draw_22 ha52 hT53 hg54 ?_
    obtain ⟨M55, hM55, hf⟩ := lw_e hf
    rw [← hM55]
    have hT56 : mT M55 x0 = 11 := by rw [hM55]; exact hT46
    have hT57 : mT M55 a47 = 13 := by rw [hM55]; exact hT48
    have hT58 : mT M55 a49 = 12 := by rw [hM55]; exact hT50
    have hT59 : mT M55 a52 = 20 := by rw [hM55]; exact hT53
    refine g_iinc (v := (1 : Int32)) (lv' := [(1, vI (x1 + (1 : Int32))), (0, vR (some x0))]) X dX12_draw_23 rfl (by decide) (by decide) rfl ?_
    refine g_goto (tgt := 2) X dX12_draw_26 (by decide) ?_
    cases hf
    refine g_sub (lvsub_of _ _ [1, 0] rfl) ?_
    exact hK
set_option maxHeartbeats 4000000 in
set_option maxRecDepth 100000 in
theorem tl_X12_draw_2 (X : gX p s m args meth c D cy B (gSt Z B H0) RX12 cX12_draw wsX12_draw 4) (hr : meth.sig.returnType = none) {Q : State → Prop} : ∀ (M : gMem) (x0 : Nat) (x1 : Int32) (z : Unit × gMem), lp_X12_draw_2 M x0 x1 = some z → (fun (r : Unit × gMem) => Q = gMQ below D cy B H0 args s 0 0 none r.2) z → gGo p l e rX12_draw s m args below meth c D cy B H0 4 0 0 Q 2 [(0, vR (some x0)), (1, vI x1)] [] M := by
  intro M x0 x1 z hf hK
  refine lp_ind (P := (fun (q : gMem × Int32) (z : Unit × gMem) => (fun (r : Unit × gMem) => Q = gMQ below D cy B H0 args s 0 0 none r.2) z → gGo p l e rX12_draw s m args below meth c D cy B H0 4 0 0 Q 2 [(0, vR (some x0)), (1, vI q.2)] [] q.1)) (fun q z hq => ?_) _ _ hf hK
  intro hK
  obtain ⟨w, hw, hm⟩ := hq
  refine tb_X12_draw_2 X hr _ _ _ w hw ?_
  cases w with
  | inl a => exact hm hK
  | inr b => cases hm; exact hK
set_option maxHeartbeats 4000000 in
set_option maxRecDepth 100000 in
theorem t_X12_draw_0 (X : gX p s m args meth c D cy B (gSt Z B H0) RX12 cX12_draw wsX12_draw 4) (hr : meth.sig.returnType = none) {Q : State → Prop} : ∀ (M : gMem) (x0 : Nat) (z : Unit × gMem), b_X12_draw_0 M x0 = some z → (fun (r : Unit × gMem) => Q = gMQ below D cy B H0 args s 0 0 none r.2) z → gGo p l e rX12_draw s m args below meth c D cy B H0 4 0 0 Q 0 [(0, vR (some x0))] [] M := by
  intro M x0 z hf hK
  unfold b_X12_draw_0 at hf
  refine g_iconst (v := (0 : Int32)) X dX12_draw_0 (by decide) ?_
  refine g_istore_n (lv' := [(1, vI (0 : Int32)), (0, vR (some x0))]) X dX12_draw_1 rfl (by decide) rfl ?_
  refine g_sub (lvsub_of _ _ [1, 0] rfl) ?_
  exact tl_X12_draw_2 X hr _ _ _ _ hf hK
set_option maxHeartbeats 4000000 in
set_option maxRecDepth 100000 in
theorem m_X12_draw (l : Launch) {D : va_G} {cy : Nat → ClassId} {B : Nat} {H0 : Heap} {Z : Nat → Nat} {M M1 : gMem} {x0 : Nat} {r : Unit} (hf : f_X12_draw M x0 = some (r, M1)) : Met l yX12_draw wsX12_draw rX12_draw (va_Pc (Value.ref x0 :: List.map gv []) (gPre D cy B H0 (gSt Z B H0) M)) (gQ D cy B H0 none M1) 0 0 (gA B) := by
  refine Met.ofW (cc := cX12_draw) (maxL := 4) (ret := none) (by decide) rfl ?_
  intro p e s m args below meth c s₁ Bd hml hv
  obtain ⟨rfl, hW, hKK, hFs⟩ := hv
  have X : gX p s m _ meth c D cy B (gSt Z B H0) RX12 cX12_draw wsX12_draw 4 := ⟨Bd.exec, Bd.bytes, atoms_spec (ws := wsX12_draw) Bd.pre, findClass_of_methodNamed Bd.named, hml, hKK, by rw [hW.1]; exact hW.2.1, Bd.notSynchronized, hFs⟩
  have hr := Bd.returns
  have hl := lv_entry ([.ref x0]) (n := 4) (Nat.le_of_ble_eq_true rfl)
  show W p l e rX12_draw s m _ below meth c s.heap [] 0 0 _ (entryFrame m ([.ref x0] : List Value).toArray 4)
  rw [lg_entry_eq]
  generalize (lg_sl ([.ref x0]) ++ List.replicate (4 - (lg_sl ([.ref x0])).length) Slot.unset).toArray = ls at hl ⊢
  have hl : lv_has ls 4 (List.map gq [(0, vR (some x0))]) := hl
  exact t_X12_draw_0 X hr _ _ _ hf rfl s.heap [] ls hW va_S.rf (lv_has_sub hl (lvsub_of _ _ [0] rfl))
/-! ## TideLotsModel$State.grow(I)V -/
theorem dX12_grow_0 : decode cX12_grow 0 = .ok (.iconst 5, 1) := by decide +kernel
theorem dX12_grow_1 : decode cX12_grow 1 = .ok (.iload_n 1, 1) := by decide +kernel
theorem dX12_grow_2 : decode cX12_grow 2 = .ok (.imul, 1) := by decide +kernel
theorem dX12_grow_3 : decode cX12_grow 3 = .ok (.istore_n 2, 1) := by decide +kernel
theorem dX12_grow_4 : decode cX12_grow 4 = .ok (.iconst 3, 1) := by decide +kernel
theorem dX12_grow_5 : decode cX12_grow 5 = .ok (.istore_n 3, 1) := by decide +kernel
theorem dX12_grow_6 : decode cX12_grow 6 = .ok (.iload_n 3, 1) := by decide +kernel
theorem dX12_grow_7 : decode cX12_grow 7 = .ok (.ifCond .lt 62, 3) := by decide +kernel
theorem dX12_grow_10 : decode cX12_grow 10 = .ok (.aload_n 0, 1) := by decide +kernel
theorem dX12_grow_11 : decode cX12_grow 11 = .ok (.getfield 19, 3) := by decide +kernel
theorem dX12_grow_14 : decode cX12_grow 14 = .ok (.iload_n 2, 1) := by decide +kernel
theorem dX12_grow_15 : decode cX12_grow 15 = .ok (.iload_n 3, 1) := by decide +kernel
theorem dX12_grow_16 : decode cX12_grow 16 = .ok (.iadd, 1) := by decide +kernel
theorem dX12_grow_17 : decode cX12_grow 17 = .ok (.iaload, 1) := by decide +kernel
theorem dX12_grow_18 : decode cX12_grow 18 = .ok (.iconst 5, 1) := by decide +kernel
theorem dX12_grow_19 : decode cX12_grow 19 = .ok (.idiv, 1) := by decide +kernel
theorem dX12_grow_20 : decode cX12_grow 20 = .ok (.istore 4, 2) := by decide +kernel
theorem dX12_grow_22 : decode cX12_grow 22 = .ok (.aload_n 0, 1) := by decide +kernel
theorem dX12_grow_23 : decode cX12_grow 23 = .ok (.getfield 19, 3) := by decide +kernel
theorem dX12_grow_26 : decode cX12_grow 26 = .ok (.iload_n 2, 1) := by decide +kernel
theorem dX12_grow_27 : decode cX12_grow 27 = .ok (.iload_n 3, 1) := by decide +kernel
theorem dX12_grow_28 : decode cX12_grow 28 = .ok (.iadd, 1) := by decide +kernel
theorem dX12_grow_29 : decode cX12_grow 29 = .ok (.dup2, 1) := by decide +kernel
theorem dX12_grow_30 : decode cX12_grow 30 = .ok (.iaload, 1) := by decide +kernel
theorem dX12_grow_31 : decode cX12_grow 31 = .ok (.iload 4, 2) := by decide +kernel
theorem dX12_grow_33 : decode cX12_grow 33 = .ok (.isub, 1) := by decide +kernel
theorem dX12_grow_34 : decode cX12_grow 34 = .ok (.iastore, 1) := by decide +kernel
theorem dX12_grow_35 : decode cX12_grow 35 = .ok (.aload_n 0, 1) := by decide +kernel
theorem dX12_grow_36 : decode cX12_grow 36 = .ok (.getfield 19, 3) := by decide +kernel
theorem dX12_grow_39 : decode cX12_grow 39 = .ok (.iload_n 2, 1) := by decide +kernel
theorem dX12_grow_40 : decode cX12_grow 40 = .ok (.iload_n 3, 1) := by decide +kernel
theorem dX12_grow_41 : decode cX12_grow 41 = .ok (.iadd, 1) := by decide +kernel
theorem dX12_grow_42 : decode cX12_grow 42 = .ok (.iconst 1, 1) := by decide +kernel
theorem dX12_grow_43 : decode cX12_grow 43 = .ok (.iadd, 1) := by decide +kernel
theorem dX12_grow_44 : decode cX12_grow 44 = .ok (.bipush 99, 2) := by decide +kernel
theorem dX12_grow_46 : decode cX12_grow 46 = .ok (.aload_n 0, 1) := by decide +kernel
theorem dX12_grow_47 : decode cX12_grow 47 = .ok (.getfield 19, 3) := by decide +kernel
theorem dX12_grow_50 : decode cX12_grow 50 = .ok (.iload_n 2, 1) := by decide +kernel
theorem dX12_grow_51 : decode cX12_grow 51 = .ok (.iload_n 3, 1) := by decide +kernel
theorem dX12_grow_52 : decode cX12_grow 52 = .ok (.iadd, 1) := by decide +kernel
theorem dX12_grow_53 : decode cX12_grow 53 = .ok (.iconst 1, 1) := by decide +kernel
theorem dX12_grow_54 : decode cX12_grow 54 = .ok (.iadd, 1) := by decide +kernel
theorem dX12_grow_55 : decode cX12_grow 55 = .ok (.iaload, 1) := by decide +kernel
theorem dX12_grow_56 : decode cX12_grow 56 = .ok (.iload 4, 2) := by decide +kernel
theorem dX12_grow_58 : decode cX12_grow 58 = .ok (.iadd, 1) := by decide +kernel
theorem dX12_grow_59 : decode cX12_grow 59 = .ok (.invokestatic 96, 3) := by decide +kernel
theorem dX12_grow_62 : decode cX12_grow 62 = .ok (.iastore, 1) := by decide +kernel
theorem dX12_grow_63 : decode cX12_grow 63 = .ok (.iinc 3 (-1), 3) := by decide +kernel
theorem dX12_grow_66 : decode cX12_grow 66 = .ok (.goto (-60), 3) := by decide +kernel
theorem dX12_grow_69 : decode cX12_grow 69 = .ok (.aload_n 0, 1) := by decide +kernel
theorem dX12_grow_70 : decode cX12_grow 70 = .ok (.getfield 19, 3) := by decide +kernel
theorem dX12_grow_73 : decode cX12_grow 73 = .ok (.iload_n 2, 1) := by decide +kernel
theorem dX12_grow_74 : decode cX12_grow 74 = .ok (.bipush 99, 2) := by decide +kernel
theorem dX12_grow_76 : decode cX12_grow 76 = .ok (.aload_n 0, 1) := by decide +kernel
theorem dX12_grow_77 : decode cX12_grow 77 = .ok (.getfield 19, 3) := by decide +kernel
theorem dX12_grow_80 : decode cX12_grow 80 = .ok (.iload_n 2, 1) := by decide +kernel
theorem dX12_grow_81 : decode cX12_grow 81 = .ok (.iaload, 1) := by decide +kernel
theorem dX12_grow_82 : decode cX12_grow 82 = .ok (.aload_n 0, 1) := by decide +kernel
theorem dX12_grow_83 : decode cX12_grow 83 = .ok (.iload_n 1, 1) := by decide +kernel
theorem dX12_grow_84 : decode cX12_grow 84 = .ok (.invokevirtual 166, 3) := by decide +kernel
theorem dX12_grow_87 : decode cX12_grow 87 = .ok (.bipush 6, 2) := by decide +kernel
theorem dX12_grow_89 : decode cX12_grow 89 = .ok (.idiv, 1) := by decide +kernel
theorem dX12_grow_90 : decode cX12_grow 90 = .ok (.iadd, 1) := by decide +kernel
theorem dX12_grow_91 : decode cX12_grow 91 = .ok (.invokestatic 96, 3) := by decide +kernel
theorem dX12_grow_94 : decode cX12_grow 94 = .ok (.iastore, 1) := by decide +kernel
theorem dX12_grow_95 : decode cX12_grow 95 = .ok (.return_, 1) := by decide +kernel
set_option maxRecDepth 20000 in
theorem ggX12_grow_X12_fishAt : GoodIn wsX12_grow wsX12_fishAt := goodIn_r _ [10, 1, 11, 12, 13, 14, 15, 16, 17, 18, 19, 20, 21, 22, 23, 24, 25, 26, 27, 28, 29] (by decide +kernel) (by decide +kernel)
set_option maxRecDepth 20000 in
theorem gX12_grow_X12_fishAt : GoodIn wsX12_grow (wsV RX12 166 RX12 yX12_fishAt wsX12_fishAt) := goodIn_app (goodIn_of _ (by decide +kernel)) ggX12_grow_X12_fishAt
theorem k_X12_grow_f19 : Cond.fieldLink RX12 19 "TideLotsModel$State" "fish" "[I" ∈ wsX12_grow := by decide +kernel
theorem i_X12_grow_X12 : ∀ w ∈ u_ws RX12 TX12 19, w ∈ wsX12_grow := by decide +kernel
theorem k_X12_grow_m96 : Cond.methodLink RX12 96 Lib.Math.min.name ∈ wsX12_grow := by decide +kernel
theorem k_X12_grow_mmins : Cond.static Lib.Math.min.name ∈ wsX12_grow := by decide +kernel
theorem k_X12_grow_mi : Cond.initialized "java/lang/Math" ∈ wsX12_grow := by decide +kernel
theorem k_X12_grow_mminc : Cond.code Lib.Math.min.name Lib.Math.min.code 2 (some .int) ∈ wsX12_grow := by decide +kernel
abbrev rX12_grow : Room := { frames := 1, cells := 0, slots := 0, locals := 23 }
noncomputable def bb_X12_grow_6 (M : gMem) (x0 : Nat) (x1 : Int32) (x2 : Int32) (x3 : Int32) : Option ((gMem × Int32) ⊕ (Unit × gMem)) :=
  (if x3 < 0 then ck (mT M x0 = 11) <| dr ((mR M x0 2)) fun a2 => ck (mT M a2 = 20) <| ck (inb x2 (mL M a2)) <| bd (f_X12_fishAt M x0 x1) fun r5 M5 => ck (mT M5 a2 = 20) <| ck (inb x2 (mL M5 a2)) <| lw (wI M5 a2 x2.toNatClampNeg ((imin ((99 : Int32)) (((mI M a2 x2.toNatClampNeg) + (r5 / (6 : Int32))))))) fun M8 => oI (some ((), M8)) else ck (mT M x0 = 11) <| dr ((mR M x0 2)) fun a12 => ck (mT M a12 = 20) <| ck (inb (x2 + x3) (mL M a12)) <| ck (inb (x2 + x3) (mL M a12)) <| ck (inb (x2 + x3) (mL M a12)) <| lw (wI M a12 ((x2 + x3)).toNatClampNeg (((mI M a12 ((x2 + x3)).toNatClampNeg) - ((mI M a12 ((x2 + x3)).toNatClampNeg) / (5 : Int32))))) fun M17 => dr ((mR M17 x0 2)) fun a20 => ck (mT M17 a20 = 20) <| ck (inb ((x2 + x3) + (1 : Int32)) (mL M17 a20)) <| ck (inb ((x2 + x3) + (1 : Int32)) (mL M17 a20)) <| lw (wI M17 a20 (((x2 + x3) + (1 : Int32))).toNatClampNeg ((imin ((99 : Int32)) (((mI M17 a20 (((x2 + x3) + (1 : Int32))).toNatClampNeg) + ((mI M a12 ((x2 + x3)).toNatClampNeg) / (5 : Int32))))))) fun M24 => some (.inl (M24, (x3 + (-1 : Int32)))))
noncomputable def lp_X12_grow_6 (M : gMem) (x0 : Nat) (x1 : Int32) (x2 : Int32) (x3 : Int32) : Option (Unit × gMem) :=
  lp (fun (q : gMem × Int32) => bb_X12_grow_6 q.1 x0 x1 x2 q.2) (M, x3)
noncomputable def b_X12_grow_0 (M : gMem) (x0 : Nat) (x1 : Int32) : Option (Unit × gMem) :=
  lp_X12_grow_6 M x0 x1 (((5 : Int32) * x1)) ((3 : Int32))
noncomputable def f_X12_grow (M : gMem) (x0 : Nat) (x1 : Int32) : Option (Unit × gMem) :=
  b_X12_grow_0 M x0 x1
set_option maxHeartbeats 4000000 in
set_option maxRecDepth 100000 in
theorem tb_X12_grow_6 (X : gX p s m args meth c D cy B (gSt Z B H0) RX12 cX12_grow wsX12_grow 5) (hr : meth.sig.returnType = none) {Q : State → Prop} : ∀ (M : gMem) (x0 : Nat) (x1 : Int32) (x2 : Int32) (x3 : Int32) (z : (gMem × Int32) ⊕ (Unit × gMem)), bb_X12_grow_6 M x0 x1 x2 x3 = some z → (Sum.elim (fun (q : gMem × Int32) => gGo p l e rX12_grow s m args below meth c D cy B H0 5 0 0 Q 6 [(0, vR (some x0)), (1, vI x1), (2, vI x2), (3, vI q.2)] [] q.1) (fun (r : Unit × gMem) => Q = gMQ below D cy B H0 args s 0 0 none r.2)) z → gGo p l e rX12_grow s m args below meth c D cy B H0 5 0 0 Q 6 [(0, vR (some x0)), (1, vI x1), (2, vI x2), (3, vI x3)] [] M := by
  intro M x0 x1 x2 x3 z hf hK
  unfold bb_X12_grow_6 at hf
  refine g_iload_n X dX12_grow_6 rfl rfl ?_
  refine g_if_lt (tgt := 69) X dX12_grow_7 (by decide) (fun hc => ?_) (fun hc => ?_)
  · have hf := ife_t hc hf
    refine g_aload_n X dX12_grow_69 rfl rfl ?_
    obtain ⟨hT1, hf⟩ := ck_e hf
    refine g_get (ci := 10) (v := vR (mR M x0 2)) 2 X cdX12 i_X12_grow_X12 (by decide) k_X12_grow_f19 rfl dX12_grow_70 rfl hT1 rfl ?_
    refine g_iload_n X dX12_grow_73 rfl rfl ?_
    refine g_bipush (v := (99 : Int32)) X dX12_grow_74 (by decide) ?_
    refine g_aload_n X dX12_grow_76 rfl rfl ?_
    refine g_get (ci := 10) (v := vR (mR M x0 2)) 2 X cdX12 i_X12_grow_X12 (by decide) k_X12_grow_f19 rfl dX12_grow_77 rfl hT1 rfl ?_
    refine g_iload_n X dX12_grow_80 rfl rfl ?_
    obtain ⟨a2, ha2, hf⟩ := dr_e hf
    obtain ⟨hT3, hf⟩ := ck_e hf
    obtain ⟨hg4, hf⟩ := ck_e hf
    refine g_iald X dX12_grow_81 ha2 hT3 hg4 ?_
    refine g_aload_n X dX12_grow_82 rfl rfl ?_
    refine g_iload_n X dX12_grow_83 rfl rfl ?_
    obtain ⟨r5, M5, hq5, hf⟩ := bd_e hf
    refine g_callV (ci := 10) (b := x0) (As := [vI x1]) (st := [vI (mI M a2 x2.toNatClampNeg), vI (99 : Int32), vI x2, vR (mR M x0 2)]) (v := some (vI r5)) (M1 := M5) X (m_X12_fishAt l hq5) (cwV 1 X.2.2.1 gX12_grow_X12_fishAt rfl rfl rfl (by decide +kernel) ⟨Nat.le_of_ble_eq_true rfl, Nat.le_of_ble_eq_true rfl⟩) rfl rfl rfl hT1 (by decide) rfl (Nat.le_of_ble_eq_true rfl) dX12_grow_84 ⟨by decide, by decide⟩ ?_
    refine g_bipush (v := (6 : Int32)) X dX12_grow_87 (by decide) ?_
    refine g_idiv X dX12_grow_89 (by decide) ?_
    refine g_iadd X dX12_grow_90 ?_
    refine g_min X k_X12_grow_m96 k_X12_grow_mmins k_X12_grow_mi k_X12_grow_mminc (Nat.le_of_ble_eq_true rfl) (Nat.le_of_ble_eq_true rfl) ⟨by decide, by decide⟩ dX12_grow_91 ?_
    obtain ⟨hT6, hf⟩ := ck_e hf
    obtain ⟨hg7, hf⟩ := ck_e hf
    refine g_iast X dX12_grow_94 ha2 hT6 hg7 ?_
    obtain ⟨M8, hM8, hf⟩ := lw_e hf
    rw [← hM8]
    have hT9 : mT M8 a2 = 20 := by rw [hM8]; exact hT6
    obtain ⟨w10, hw10, hz10⟩ := oI_e hf
    subst hz10
    have hf := hw10
    cases hf
    refine g_eqQ hK ?_
    exact g_vret X hr dX12_grow_95
  · have hf := ife_f hc hf
    refine g_aload_n X dX12_grow_10 rfl rfl ?_
    obtain ⟨hT11, hf⟩ := ck_e hf
    refine g_get (ci := 10) (v := vR (mR M x0 2)) 2 X cdX12 i_X12_grow_X12 (by decide) k_X12_grow_f19 rfl dX12_grow_11 rfl hT11 rfl ?_
    refine g_iload_n X dX12_grow_14 rfl rfl ?_
    refine g_iload_n X dX12_grow_15 rfl rfl ?_
    refine g_iadd X dX12_grow_16 ?_
    obtain ⟨a12, ha12, hf⟩ := dr_e hf
    obtain ⟨hT13, hf⟩ := ck_e hf
    obtain ⟨hg14, hf⟩ := ck_e hf
    refine g_iald X dX12_grow_17 ha12 hT13 hg14 ?_
    refine g_iconst (v := (5 : Int32)) X dX12_grow_18 (by decide) ?_
    refine g_idiv X dX12_grow_19 (by decide) ?_
    refine g_istore (lv' := [(4, vI ((mI M a12 ((x2 + x3)).toNatClampNeg) / (5 : Int32))), (0, vR (some x0)), (1, vI x1), (2, vI x2), (3, vI x3)]) X dX12_grow_20 (by decide) rfl ?_
    refine g_aload_n X dX12_grow_22 rfl rfl ?_
    refine g_get (ci := 10) (v := vR (mR M x0 2)) 2 X cdX12 i_X12_grow_X12 (by decide) k_X12_grow_f19 rfl dX12_grow_23 rfl hT11 rfl ?_
    refine g_iload_n X dX12_grow_26 rfl rfl ?_
    refine g_iload_n X dX12_grow_27 rfl rfl ?_
    refine g_iadd X dX12_grow_28 ?_
    refine g_dup2 X dX12_grow_29 rfl rfl ?_
    obtain ⟨hg15, hf⟩ := ck_e hf
    refine g_iald X dX12_grow_30 ha12 hT13 hg15 ?_
    refine g_iload X dX12_grow_31 rfl ?_
    refine g_isub X dX12_grow_33 ?_
    obtain ⟨hg16, hf⟩ := ck_e hf
    refine g_iast X dX12_grow_34 ha12 hT13 hg16 ?_
    obtain ⟨M17, hM17, hf⟩ := lw_e hf
    rw [← hM17]
    have hT18 : mT M17 x0 = 11 := by rw [hM17]; exact hT11
    have hT19 : mT M17 a12 = 20 := by rw [hM17]; exact hT13
    refine g_aload_n X dX12_grow_35 rfl rfl ?_
    refine g_get (ci := 10) (v := vR (mR M17 x0 2)) 2 X cdX12 i_X12_grow_X12 (by decide) k_X12_grow_f19 rfl dX12_grow_36 rfl hT18 rfl ?_
    refine g_iload_n X dX12_grow_39 rfl rfl ?_
    refine g_iload_n X dX12_grow_40 rfl rfl ?_
    refine g_iadd X dX12_grow_41 ?_
    refine g_iconst (v := (1 : Int32)) X dX12_grow_42 (by decide) ?_
    refine g_iadd X dX12_grow_43 ?_
    refine g_bipush (v := (99 : Int32)) X dX12_grow_44 (by decide) ?_
    refine g_aload_n X dX12_grow_46 rfl rfl ?_
    refine g_get (ci := 10) (v := vR (mR M17 x0 2)) 2 X cdX12 i_X12_grow_X12 (by decide) k_X12_grow_f19 rfl dX12_grow_47 rfl hT18 rfl ?_
    refine g_iload_n X dX12_grow_50 rfl rfl ?_
    refine g_iload_n X dX12_grow_51 rfl rfl ?_
    refine g_iadd X dX12_grow_52 ?_
    refine g_iconst (v := (1 : Int32)) X dX12_grow_53 (by decide) ?_
    refine g_iadd X dX12_grow_54 ?_
    obtain ⟨a20, ha20, hf⟩ := dr_e hf
    obtain ⟨hT21, hf⟩ := ck_e hf
    obtain ⟨hg22, hf⟩ := ck_e hf
    refine g_iald X dX12_grow_55 ha20 hT21 hg22 ?_
    refine g_iload X dX12_grow_56 rfl ?_
    refine g_iadd X dX12_grow_58 ?_
    refine g_min X k_X12_grow_m96 k_X12_grow_mmins k_X12_grow_mi k_X12_grow_mminc (Nat.le_of_ble_eq_true rfl) (Nat.le_of_ble_eq_true rfl) ⟨by decide, by decide⟩ dX12_grow_59 ?_
    obtain ⟨hg23, hf⟩ := ck_e hf
    refine g_iast X dX12_grow_62 ha20 hT21 hg23 ?_
    obtain ⟨M24, hM24, hf⟩ := lw_e hf
    rw [← hM24]
    have hT25 : mT M24 x0 = 11 := by rw [hM24]; exact hT18
    have hT26 : mT M24 a12 = 20 := by rw [hM24]; exact hT19
    have hT27 : mT M24 a20 = 20 := by rw [hM24]; exact hT21
    refine g_iinc (v := (-1 : Int32)) (lv' := [(3, vI (x3 + (-1 : Int32))), (4, vI ((mI M a12 ((x2 + x3)).toNatClampNeg) / (5 : Int32))), (0, vR (some x0)), (1, vI x1), (2, vI x2)]) X dX12_grow_63 rfl (by decide) (by decide) rfl ?_
    refine g_goto (tgt := 6) X dX12_grow_66 (by decide) ?_
    cases hf
    refine g_sub (lvsub_of _ _ [2, 3, 4, 0] rfl) ?_
    exact hK
set_option maxHeartbeats 4000000 in
set_option maxRecDepth 100000 in
theorem tl_X12_grow_6 (X : gX p s m args meth c D cy B (gSt Z B H0) RX12 cX12_grow wsX12_grow 5) (hr : meth.sig.returnType = none) {Q : State → Prop} : ∀ (M : gMem) (x0 : Nat) (x1 : Int32) (x2 : Int32) (x3 : Int32) (z : Unit × gMem), lp_X12_grow_6 M x0 x1 x2 x3 = some z → (fun (r : Unit × gMem) => Q = gMQ below D cy B H0 args s 0 0 none r.2) z → gGo p l e rX12_grow s m args below meth c D cy B H0 5 0 0 Q 6 [(0, vR (some x0)), (1, vI x1), (2, vI x2), (3, vI x3)] [] M := by
  intro M x0 x1 x2 x3 z hf hK
  refine lp_ind (P := (fun (q : gMem × Int32) (z : Unit × gMem) => (fun (r : Unit × gMem) => Q = gMQ below D cy B H0 args s 0 0 none r.2) z → gGo p l e rX12_grow s m args below meth c D cy B H0 5 0 0 Q 6 [(0, vR (some x0)), (1, vI x1), (2, vI x2), (3, vI q.2)] [] q.1)) (fun q z hq => ?_) _ _ hf hK
  intro hK
  obtain ⟨w, hw, hm⟩ := hq
  refine tb_X12_grow_6 X hr _ _ _ _ _ w hw ?_
  cases w with
  | inl a => exact hm hK
  | inr b => cases hm; exact hK
set_option maxHeartbeats 4000000 in
set_option maxRecDepth 100000 in
theorem t_X12_grow_0 (X : gX p s m args meth c D cy B (gSt Z B H0) RX12 cX12_grow wsX12_grow 5) (hr : meth.sig.returnType = none) {Q : State → Prop} : ∀ (M : gMem) (x0 : Nat) (x1 : Int32) (z : Unit × gMem), b_X12_grow_0 M x0 x1 = some z → (fun (r : Unit × gMem) => Q = gMQ below D cy B H0 args s 0 0 none r.2) z → gGo p l e rX12_grow s m args below meth c D cy B H0 5 0 0 Q 0 [(0, vR (some x0)), (1, vI x1)] [] M := by
  intro M x0 x1 z hf hK
  unfold b_X12_grow_0 at hf
  refine g_iconst (v := (5 : Int32)) X dX12_grow_0 (by decide) ?_
  refine g_iload_n X dX12_grow_1 rfl rfl ?_
  refine g_imul X dX12_grow_2 ?_
  refine g_istore_n (lv' := [(2, vI ((5 : Int32) * x1)), (0, vR (some x0)), (1, vI x1)]) X dX12_grow_3 rfl (by decide) rfl ?_
  refine g_iconst (v := (3 : Int32)) X dX12_grow_4 (by decide) ?_
  refine g_istore_n (lv' := [(3, vI (3 : Int32)), (2, vI ((5 : Int32) * x1)), (0, vR (some x0)), (1, vI x1)]) X dX12_grow_5 rfl (by decide) rfl ?_
  refine g_sub (lvsub_of _ _ [2, 3, 1, 0] rfl) ?_
  exact tl_X12_grow_6 X hr _ _ _ _ _ _ hf hK
set_option maxHeartbeats 4000000 in
set_option maxRecDepth 100000 in
theorem m_X12_grow (l : Launch) {D : va_G} {cy : Nat → ClassId} {B : Nat} {H0 : Heap} {Z : Nat → Nat} {M M1 : gMem} {x0 : Nat} {x1 : Int32} {r : Unit} (hf : f_X12_grow M x0 x1 = some (r, M1)) : Met l yX12_grow wsX12_grow rX12_grow (va_Pc (Value.ref x0 :: List.map gv [vI x1]) (gPre D cy B H0 (gSt Z B H0) M)) (gQ D cy B H0 none M1) 0 0 (gA B) := by
  refine Met.ofW (cc := cX12_grow) (maxL := 5) (ret := none) (by decide) rfl ?_
  intro p e s m args below meth c s₁ Bd hml hv
  obtain ⟨rfl, hW, hKK, hFs⟩ := hv
  have X : gX p s m _ meth c D cy B (gSt Z B H0) RX12 cX12_grow wsX12_grow 5 := ⟨Bd.exec, Bd.bytes, atoms_spec (ws := wsX12_grow) Bd.pre, findClass_of_methodNamed Bd.named, hml, hKK, by rw [hW.1]; exact hW.2.1, Bd.notSynchronized, hFs⟩
  have hr := Bd.returns
  have hl := lv_entry ([.ref x0, .int x1]) (n := 5) (Nat.le_of_ble_eq_true rfl)
  show W p l e rX12_grow s m _ below meth c s.heap [] 0 0 _ (entryFrame m ([.ref x0, .int x1] : List Value).toArray 5)
  rw [lg_entry_eq]
  generalize (lg_sl ([.ref x0, .int x1]) ++ List.replicate (5 - (lg_sl ([.ref x0, .int x1])).length) Slot.unset).toArray = ls at hl ⊢
  have hl : lv_has ls 5 (List.map gq [(0, vR (some x0)), (1, vI x1)]) := hl
  exact t_X12_grow_0 X hr _ _ _ _ hf rfl s.heap [] ls hW va_S.rf (lv_has_sub hl (lvsub_of _ _ [0, 1] rfl))
/-! ## TideLotsModel$State.split(I)V -/
theorem dX12_split_0 : decode cX12_split 0 = .ok (.iconst 0, 1) := by decide +kernel
theorem dX12_split_1 : decode cX12_split 1 = .ok (.istore_n 2, 1) := by decide +kernel
theorem dX12_split_2 : decode cX12_split 2 = .ok (.iconst 0, 1) := by decide +kernel
theorem dX12_split_3 : decode cX12_split 3 = .ok (.istore_n 3, 1) := by decide +kernel
theorem dX12_split_4 : decode cX12_split 4 = .ok (.aload_n 0, 1) := by decide +kernel
theorem dX12_split_5 : decode cX12_split 5 = .ok (.getfield 3, 3) := by decide +kernel
theorem dX12_split_8 : decode cX12_split 8 = .ok (.getfield 81, 3) := by decide +kernel
theorem dX12_split_11 : decode cX12_split 11 = .ok (.getfield 160, 3) := by decide +kernel
theorem dX12_split_14 : decode cX12_split 14 = .ok (.iload_n 1, 1) := by decide +kernel
theorem dX12_split_15 : decode cX12_split 15 = .ok (.iaload, 1) := by decide +kernel
theorem dX12_split_16 : decode cX12_split 16 = .ok (.istore 4, 2) := by decide +kernel
theorem dX12_split_18 : decode cX12_split 18 = .ok (.iconst 0, 1) := by decide +kernel
theorem dX12_split_19 : decode cX12_split 19 = .ok (.istore 5, 2) := by decide +kernel
theorem dX12_split_21 : decode cX12_split 21 = .ok (.iload 5, 2) := by decide +kernel
theorem dX12_split_23 : decode cX12_split 23 = .ok (.iload 4, 2) := by decide +kernel
theorem dX12_split_25 : decode cX12_split 25 = .ok (.if_icmp .ge 88, 3) := by decide +kernel
theorem dX12_split_28 : decode cX12_split 28 = .ok (.aload_n 0, 1) := by decide +kernel
theorem dX12_split_29 : decode cX12_split 29 = .ok (.getfield 3, 3) := by decide +kernel
theorem dX12_split_32 : decode cX12_split 32 = .ok (.getfield 81, 3) := by decide +kernel
theorem dX12_split_35 : decode cX12_split 35 = .ok (.getfield 163, 3) := by decide +kernel
theorem dX12_split_38 : decode cX12_split 38 = .ok (.bipush 8, 2) := by decide +kernel
theorem dX12_split_40 : decode cX12_split 40 = .ok (.iload_n 1, 1) := by decide +kernel
theorem dX12_split_41 : decode cX12_split 41 = .ok (.imul, 1) := by decide +kernel
theorem dX12_split_42 : decode cX12_split 42 = .ok (.iload 5, 2) := by decide +kernel
theorem dX12_split_44 : decode cX12_split 44 = .ok (.iadd, 1) := by decide +kernel
theorem dX12_split_45 : decode cX12_split 45 = .ok (.iaload, 1) := by decide +kernel
theorem dX12_split_46 : decode cX12_split 46 = .ok (.istore 6, 2) := by decide +kernel
theorem dX12_split_48 : decode cX12_split 48 = .ok (.aload_n 0, 1) := by decide +kernel
theorem dX12_split_49 : decode cX12_split 49 = .ok (.getfield 44, 3) := by decide +kernel
theorem dX12_split_52 : decode cX12_split 52 = .ok (.iload 6, 2) := by decide +kernel
theorem dX12_split_54 : decode cX12_split 54 = .ok (.iaload, 1) := by decide +kernel
theorem dX12_split_55 : decode cX12_split 55 = .ok (.iconst 1, 1) := by decide +kernel
theorem dX12_split_56 : decode cX12_split 56 = .ok (.if_icmp .ne 15, 3) := by decide +kernel
theorem dX12_split_59 : decode cX12_split 59 = .ok (.aload_n 0, 1) := by decide +kernel
theorem dX12_split_60 : decode cX12_split 60 = .ok (.getfield 35, 3) := by decide +kernel
theorem dX12_split_63 : decode cX12_split 63 = .ok (.iload 6, 2) := by decide +kernel
theorem dX12_split_65 : decode cX12_split 65 = .ok (.iaload, 1) := by decide +kernel
theorem dX12_split_66 : decode cX12_split 66 = .ok (.iconst 2, 1) := by decide +kernel
theorem dX12_split_67 : decode cX12_split 67 = .ok (.idiv, 1) := by decide +kernel
theorem dX12_split_68 : decode cX12_split 68 = .ok (.goto 10, 3) := by decide +kernel
theorem dX12_split_71 : decode cX12_split 71 = .ok (.aload_n 0, 1) := by decide +kernel
theorem dX12_split_72 : decode cX12_split 72 = .ok (.getfield 35, 3) := by decide +kernel
theorem dX12_split_75 : decode cX12_split 75 = .ok (.iload 6, 2) := by decide +kernel
theorem dX12_split_77 : decode cX12_split 77 = .ok (.iaload, 1) := by decide +kernel
theorem dX12_split_78 : decode cX12_split 78 = .ok (.istore 7, 2) := by decide +kernel
theorem dX12_split_80 : decode cX12_split 80 = .ok (.iload_n 2, 1) := by decide +kernel
theorem dX12_split_81 : decode cX12_split 81 = .ok (.iload 7, 2) := by decide +kernel
theorem dX12_split_83 : decode cX12_split 83 = .ok (.iadd, 1) := by decide +kernel
theorem dX12_split_84 : decode cX12_split 84 = .ok (.istore_n 2, 1) := by decide +kernel
theorem dX12_split_85 : decode cX12_split 85 = .ok (.aload_n 0, 1) := by decide +kernel
theorem dX12_split_86 : decode cX12_split 86 = .ok (.getfield 35, 3) := by decide +kernel
theorem dX12_split_89 : decode cX12_split 89 = .ok (.iload 6, 2) := by decide +kernel
theorem dX12_split_91 : decode cX12_split 91 = .ok (.dup2, 1) := by decide +kernel
theorem dX12_split_92 : decode cX12_split 92 = .ok (.iaload, 1) := by decide +kernel
theorem dX12_split_93 : decode cX12_split 93 = .ok (.iload 7, 2) := by decide +kernel
theorem dX12_split_95 : decode cX12_split 95 = .ok (.isub, 1) := by decide +kernel
theorem dX12_split_96 : decode cX12_split 96 = .ok (.iastore, 1) := by decide +kernel
theorem dX12_split_97 : decode cX12_split 97 = .ok (.iload_n 3, 1) := by decide +kernel
theorem dX12_split_98 : decode cX12_split 98 = .ok (.aload_n 0, 1) := by decide +kernel
theorem dX12_split_99 : decode cX12_split 99 = .ok (.getfield 35, 3) := by decide +kernel
theorem dX12_split_102 : decode cX12_split 102 = .ok (.iload 6, 2) := by decide +kernel
theorem dX12_split_104 : decode cX12_split 104 = .ok (.iaload, 1) := by decide +kernel
theorem dX12_split_105 : decode cX12_split 105 = .ok (.iadd, 1) := by decide +kernel
theorem dX12_split_106 : decode cX12_split 106 = .ok (.istore_n 3, 1) := by decide +kernel
theorem dX12_split_107 : decode cX12_split 107 = .ok (.iinc 5 1, 3) := by decide +kernel
theorem dX12_split_110 : decode cX12_split 110 = .ok (.goto (-89), 3) := by decide +kernel
theorem dX12_split_113 : decode cX12_split 113 = .ok (.iconst 0, 1) := by decide +kernel
theorem dX12_split_114 : decode cX12_split 114 = .ok (.istore 5, 2) := by decide +kernel
theorem dX12_split_116 : decode cX12_split 116 = .ok (.iload 5, 2) := by decide +kernel
theorem dX12_split_118 : decode cX12_split 118 = .ok (.iload 4, 2) := by decide +kernel
theorem dX12_split_120 : decode cX12_split 120 = .ok (.if_icmp .ge 53, 3) := by decide +kernel
theorem dX12_split_123 : decode cX12_split 123 = .ok (.aload_n 0, 1) := by decide +kernel
theorem dX12_split_124 : decode cX12_split 124 = .ok (.getfield 35, 3) := by decide +kernel
theorem dX12_split_127 : decode cX12_split 127 = .ok (.aload_n 0, 1) := by decide +kernel
theorem dX12_split_128 : decode cX12_split 128 = .ok (.getfield 3, 3) := by decide +kernel
theorem dX12_split_131 : decode cX12_split 131 = .ok (.getfield 81, 3) := by decide +kernel
theorem dX12_split_134 : decode cX12_split 134 = .ok (.getfield 163, 3) := by decide +kernel
theorem dX12_split_137 : decode cX12_split 137 = .ok (.bipush 8, 2) := by decide +kernel
theorem dX12_split_139 : decode cX12_split 139 = .ok (.iload_n 1, 1) := by decide +kernel
theorem dX12_split_140 : decode cX12_split 140 = .ok (.imul, 1) := by decide +kernel
theorem dX12_split_141 : decode cX12_split 141 = .ok (.iload 5, 2) := by decide +kernel
theorem dX12_split_143 : decode cX12_split 143 = .ok (.iadd, 1) := by decide +kernel
theorem dX12_split_144 : decode cX12_split 144 = .ok (.iaload, 1) := by decide +kernel
theorem dX12_split_145 : decode cX12_split 145 = .ok (.dup2, 1) := by decide +kernel
theorem dX12_split_146 : decode cX12_split 146 = .ok (.iaload, 1) := by decide +kernel
theorem dX12_split_147 : decode cX12_split 147 = .ok (.iload_n 2, 1) := by decide +kernel
theorem dX12_split_148 : decode cX12_split 148 = .ok (.iload 4, 2) := by decide +kernel
theorem dX12_split_150 : decode cX12_split 150 = .ok (.idiv, 1) := by decide +kernel
theorem dX12_split_151 : decode cX12_split 151 = .ok (.iload 5, 2) := by decide +kernel
theorem dX12_split_153 : decode cX12_split 153 = .ok (.ifCond .ne 10, 3) := by decide +kernel
theorem dX12_split_156 : decode cX12_split 156 = .ok (.iload_n 2, 1) := by decide +kernel
theorem dX12_split_157 : decode cX12_split 157 = .ok (.iload 4, 2) := by decide +kernel
theorem dX12_split_159 : decode cX12_split 159 = .ok (.irem, 1) := by decide +kernel
theorem dX12_split_160 : decode cX12_split 160 = .ok (.goto 4, 3) := by decide +kernel
theorem dX12_split_163 : decode cX12_split 163 = .ok (.iconst 0, 1) := by decide +kernel
theorem dX12_split_164 : decode cX12_split 164 = .ok (.iadd, 1) := by decide +kernel
theorem dX12_split_165 : decode cX12_split 165 = .ok (.iadd, 1) := by decide +kernel
theorem dX12_split_166 : decode cX12_split 166 = .ok (.iastore, 1) := by decide +kernel
theorem dX12_split_167 : decode cX12_split 167 = .ok (.iinc 5 1, 3) := by decide +kernel
theorem dX12_split_170 : decode cX12_split 170 = .ok (.goto (-54), 3) := by decide +kernel
theorem dX12_split_173 : decode cX12_split 173 = .ok (.aload_n 0, 1) := by decide +kernel
theorem dX12_split_174 : decode cX12_split 174 = .ok (.getfield 47, 3) := by decide +kernel
theorem dX12_split_177 : decode cX12_split 177 = .ok (.iload_n 1, 1) := by decide +kernel
theorem dX12_split_178 : decode cX12_split 178 = .ok (.dup2, 1) := by decide +kernel
theorem dX12_split_179 : decode cX12_split 179 = .ok (.iaload, 1) := by decide +kernel
theorem dX12_split_180 : decode cX12_split 180 = .ok (.iload_n 2, 1) := by decide +kernel
theorem dX12_split_181 : decode cX12_split 181 = .ok (.iadd, 1) := by decide +kernel
theorem dX12_split_182 : decode cX12_split 182 = .ok (.iastore, 1) := by decide +kernel
theorem dX12_split_183 : decode cX12_split 183 = .ok (.aload_n 0, 1) := by decide +kernel
theorem dX12_split_184 : decode cX12_split 184 = .ok (.getfield 50, 3) := by decide +kernel
theorem dX12_split_187 : decode cX12_split 187 = .ok (.iload_n 1, 1) := by decide +kernel
theorem dX12_split_188 : decode cX12_split 188 = .ok (.dup2, 1) := by decide +kernel
theorem dX12_split_189 : decode cX12_split 189 = .ok (.iaload, 1) := by decide +kernel
theorem dX12_split_190 : decode cX12_split 190 = .ok (.iload_n 3, 1) := by decide +kernel
theorem dX12_split_191 : decode cX12_split 191 = .ok (.iadd, 1) := by decide +kernel
theorem dX12_split_192 : decode cX12_split 192 = .ok (.iastore, 1) := by decide +kernel
theorem dX12_split_193 : decode cX12_split 193 = .ok (.aload_n 0, 1) := by decide +kernel
theorem dX12_split_194 : decode cX12_split 194 = .ok (.getfield 53, 3) := by decide +kernel
theorem dX12_split_197 : decode cX12_split 197 = .ok (.iload_n 1, 1) := by decide +kernel
theorem dX12_split_198 : decode cX12_split 198 = .ok (.dup2, 1) := by decide +kernel
theorem dX12_split_199 : decode cX12_split 199 = .ok (.iaload, 1) := by decide +kernel
theorem dX12_split_200 : decode cX12_split 200 = .ok (.iload_n 3, 1) := by decide +kernel
theorem dX12_split_201 : decode cX12_split 201 = .ok (.ifCond .le 7, 3) := by decide +kernel
theorem dX12_split_204 : decode cX12_split 204 = .ok (.iconst 1, 1) := by decide +kernel
theorem dX12_split_205 : decode cX12_split 205 = .ok (.goto 4, 3) := by decide +kernel
theorem dX12_split_208 : decode cX12_split 208 = .ok (.iconst 0, 1) := by decide +kernel
theorem dX12_split_209 : decode cX12_split 209 = .ok (.iadd, 1) := by decide +kernel
theorem dX12_split_210 : decode cX12_split 210 = .ok (.iastore, 1) := by decide +kernel
theorem dX12_split_211 : decode cX12_split 211 = .ok (.return_, 1) := by decide +kernel
theorem k_X12_split_f47 : Cond.fieldLink RX12 47 "TideLotsModel$State" "shown" "[I" ∈ wsX12_split := by decide +kernel
theorem i_X12_split_X12 : ∀ w ∈ u_ws RX12 TX12 19, w ∈ wsX12_split := by decide +kernel
theorem k_X12_split_f50 : Cond.fieldLink RX12 50 "TideLotsModel$State" "hidden" "[I" ∈ wsX12_split := by decide +kernel
theorem k_X12_split_f53 : Cond.fieldLink RX12 53 "TideLotsModel$State" "hid" "[I" ∈ wsX12_split := by decide +kernel
theorem k_X12_split_f35 : Cond.fieldLink RX12 35 "TideLotsModel$State" "caught" "[I" ∈ wsX12_split := by decide +kernel
theorem k_X12_split_f3 : Cond.fieldLink RX12 3 "TideLotsModel$State" "this$0" "LTideLotsModel;" ∈ wsX12_split := by decide +kernel
theorem i_X12_split_X14 : ∀ w ∈ u_ws RX14 TX14 15, w ∈ wsX12_split := by decide +kernel
theorem kn_X12_163 : Cond.fieldLinkNest "TideLotsModel$State" (163 : Nat) "TideLotsModel$Told" "member" "[I" "TideLotsModel" ∈ gNs := by decide +kernel
theorem i_X12_split_X13 : ∀ w ∈ u_ws RX13 TX13 25, w ∈ wsX12_split := by decide +kernel
theorem k_X12_split_f44 : Cond.fieldLink RX12 44 "TideLotsModel$State" "cheats" "[I" ∈ wsX12_split := by decide +kernel
theorem kn_X12_160 : Cond.fieldLinkNest "TideLotsModel$State" (160 : Nat) "TideLotsModel$Told" "members" "[I" "TideLotsModel" ∈ gNs := by decide +kernel
abbrev rX12_split : Room := { frames := 0, cells := 0, slots := 0, locals := 0 }
noncomputable def b_X12_split_209 (M : gMem) (s0 : Option Nat) (s1 : Int32) (s2 : Int32) (s3 : Int32) : Option (Unit × gMem) :=
  dr s0 fun a1 => ck (mT M a1 = 20) <| ck (inb s1 (mL M a1)) <| lw (wI M a1 s1.toNatClampNeg ((s2 + s3))) fun M4 => some ((), M4)
noncomputable def b_X12_split_164 (M : gMem) (x0 : Nat) (x1 : Int32) (x2 : Int32) (x3 : Int32) (x4 : Int32) (x5 : Int32) (s0 : Option Nat) (s1 : Int32) (s2 : Int32) (s3 : Int32) (s4 : Int32) : Option ((gMem × Int32) ⊕ (Unit × gMem)) :=
  dr s0 fun a6 => ck (mT M a6 = 20) <| ck (inb s1 (mL M a6)) <| lw (wI M a6 s1.toNatClampNeg ((s2 + (s3 + s4)))) fun M9 => some (.inl (M9, (x5 + (1 : Int32))))
noncomputable def bb_X12_split_116 (M : gMem) (x0 : Nat) (x1 : Int32) (x2 : Int32) (x3 : Int32) (x4 : Int32) (x5 : Int32) : Option ((gMem × Int32) ⊕ (Unit × gMem)) :=
  (if x4 ≤ x5 then ck (mT M x0 = 11) <| dr ((mR M x0 11)) fun a12 => ck (mT M a12 = 20) <| ck (inb x1 (mL M a12)) <| ck (inb x1 (mL M a12)) <| lw (wI M a12 x1.toNatClampNeg (((mI M a12 x1.toNatClampNeg) + x2))) fun M16 => dr ((mR M16 x0 12)) fun a19 => ck (mT M16 a19 = 20) <| ck (inb x1 (mL M16 a19)) <| ck (inb x1 (mL M16 a19)) <| lw (wI M16 a19 x1.toNatClampNeg (((mI M16 a19 x1.toNatClampNeg) + x3))) fun M23 => dr ((mR M23 x0 13)) fun a27 => ck (mT M23 a27 = 20) <| ck (inb x1 (mL M23 a27)) <| (if x3 ≤ 0 then oI (b_X12_split_209 M23 ((mR M23 x0 13)) x1 ((mI M23 a27 x1.toNatClampNeg)) ((0 : Int32))) else oI (b_X12_split_209 M23 ((mR M23 x0 13)) x1 ((mI M23 a27 x1.toNatClampNeg)) ((1 : Int32)))) else ck (mT M x0 = 11) <| dr ((mR M x0 18)) fun a33 => ck (mT M a33 = 13) <| dr ((mR M a33 11)) fun a35 => ck (mT M a35 = 12) <| dr ((mR M a35 14)) fun a37 => ck (mT M a37 = 20) <| ck (inb (((8 : Int32) * x1) + x5) (mL M a37)) <| dr ((mR M x0 7)) fun a40 => ck (mT M a40 = 20) <| ck (inb (mI M a37 ((((8 : Int32) * x1) + x5)).toNatClampNeg) (mL M a40)) <| ck (¬ x4 = 0) <| (if x5 = 0 then ck (¬ x4 = 0) <| b_X12_split_164 M x0 x1 x2 x3 x4 x5 ((mR M x0 7)) ((mI M a37 ((((8 : Int32) * x1) + x5)).toNatClampNeg)) ((mI M a40 ((mI M a37 ((((8 : Int32) * x1) + x5)).toNatClampNeg)).toNatClampNeg)) ((x2 / x4)) ((x2 - x2 / x4 * x4)) else b_X12_split_164 M x0 x1 x2 x3 x4 x5 ((mR M x0 7)) ((mI M a37 ((((8 : Int32) * x1) + x5)).toNatClampNeg)) ((mI M a40 ((mI M a37 ((((8 : Int32) * x1) + x5)).toNatClampNeg)).toNatClampNeg)) ((x2 / x4)) ((0 : Int32))))
noncomputable def lp_X12_split_116 (M : gMem) (x0 : Nat) (x1 : Int32) (x2 : Int32) (x3 : Int32) (x4 : Int32) (x5 : Int32) : Option (Unit × gMem) :=
  lp (fun (q : gMem × Int32) => bb_X12_split_116 q.1 x0 x1 x2 x3 x4 q.2) (M, x5)
noncomputable def b_X12_split_78 (M : gMem) (x0 : Nat) (x1 : Int32) (x2 : Int32) (x3 : Int32) (x4 : Int32) (x5 : Int32) (x6 : Int32) (s0 : Int32) : Option ((gMem × Int32 × Int32 × Int32) ⊕ (Unit × gMem)) :=
  ck (mT M x0 = 11) <| dr ((mR M x0 7)) fun a46 => ck (mT M a46 = 20) <| ck (inb x6 (mL M a46)) <| ck (inb x6 (mL M a46)) <| lw (wI M a46 x6.toNatClampNeg (((mI M a46 x6.toNatClampNeg) - s0))) fun M50 => dr ((mR M50 x0 7)) fun a53 => ck (mT M50 a53 = 20) <| ck (inb x6 (mL M50 a53)) <| some (.inl (M50, (x2 + s0), (x3 + (mI M50 a53 x6.toNatClampNeg)), (x5 + (1 : Int32))))
noncomputable def bb_X12_split_21 (M : gMem) (x0 : Nat) (x1 : Int32) (x2 : Int32) (x3 : Int32) (x4 : Int32) (x5 : Int32) : Option ((gMem × Int32 × Int32 × Int32) ⊕ (Unit × gMem)) :=
  (if x4 ≤ x5 then oI (lp_X12_split_116 M x0 x1 x2 x3 x4 ((0 : Int32))) else ck (mT M x0 = 11) <| dr ((mR M x0 18)) fun a58 => ck (mT M a58 = 13) <| dr ((mR M a58 11)) fun a60 => ck (mT M a60 = 12) <| dr ((mR M a60 14)) fun a62 => ck (mT M a62 = 20) <| ck (inb (((8 : Int32) * x1) + x5) (mL M a62)) <| dr ((mR M x0 10)) fun a65 => ck (mT M a65 = 20) <| ck (inb (mI M a62 ((((8 : Int32) * x1) + x5)).toNatClampNeg) (mL M a65)) <| (if (mI M a65 ((mI M a62 ((((8 : Int32) * x1) + x5)).toNatClampNeg)).toNatClampNeg) = (1 : Int32) then dr ((mR M x0 7)) fun a71 => ck (mT M a71 = 20) <| ck (inb (mI M a62 ((((8 : Int32) * x1) + x5)).toNatClampNeg) (mL M a71)) <| b_X12_split_78 M x0 x1 x2 x3 x4 x5 ((mI M a62 ((((8 : Int32) * x1) + x5)).toNatClampNeg)) (((mI M a71 ((mI M a62 ((((8 : Int32) * x1) + x5)).toNatClampNeg)).toNatClampNeg) / (2 : Int32))) else dr ((mR M x0 7)) fun a68 => ck (mT M a68 = 20) <| ck (inb (mI M a62 ((((8 : Int32) * x1) + x5)).toNatClampNeg) (mL M a68)) <| b_X12_split_78 M x0 x1 x2 x3 x4 x5 ((mI M a62 ((((8 : Int32) * x1) + x5)).toNatClampNeg)) ((mI M a68 ((mI M a62 ((((8 : Int32) * x1) + x5)).toNatClampNeg)).toNatClampNeg))))
noncomputable def lp_X12_split_21 (M : gMem) (x0 : Nat) (x1 : Int32) (x2 : Int32) (x3 : Int32) (x4 : Int32) (x5 : Int32) : Option (Unit × gMem) :=
  lp (fun (q : gMem × Int32 × Int32 × Int32) => bb_X12_split_21 q.1 x0 x1 q.2.1 q.2.2.1 x4 q.2.2.2) (M, x2, x3, x5)
noncomputable def b_X12_split_0 (M : gMem) (x0 : Nat) (x1 : Int32) : Option (Unit × gMem) :=
  ck (mT M x0 = 11) <| dr ((mR M x0 18)) fun a75 => ck (mT M a75 = 13) <| dr ((mR M a75 11)) fun a77 => ck (mT M a77 = 12) <| dr ((mR M a77 13)) fun a79 => ck (mT M a79 = 20) <| ck (inb x1 (mL M a79)) <| lp_X12_split_21 M x0 x1 ((0 : Int32)) ((0 : Int32)) ((mI M a79 x1.toNatClampNeg)) ((0 : Int32))
noncomputable def f_X12_split (M : gMem) (x0 : Nat) (x1 : Int32) : Option (Unit × gMem) :=
  b_X12_split_0 M x0 x1
set_option maxHeartbeats 4000000 in
set_option maxRecDepth 100000 in
theorem t_X12_split_209 (X : gX p s m args meth c D cy B (gSt Z B H0) RX12 cX12_split wsX12_split 8) (hr : meth.sig.returnType = none) {Q : State → Prop} : ∀ (M : gMem) (s0 : Option Nat) (s1 : Int32) (s2 : Int32) (s3 : Int32) (z : Unit × gMem), b_X12_split_209 M s0 s1 s2 s3 = some z → (fun (r : Unit × gMem) => Q = gMQ below D cy B H0 args s 0 0 none r.2) z → gGo p l e rX12_split s m args below meth c D cy B H0 8 0 0 Q 209 [] [vI s3, vI s2, vI s1, vR s0] M := by
  intro M s0 s1 s2 s3 z hf hK
  unfold b_X12_split_209 at hf
  refine g_iadd X dX12_split_209 ?_
  obtain ⟨a1, ha1, hf⟩ := dr_e hf
  obtain ⟨hT2, hf⟩ := ck_e hf
  obtain ⟨hg3, hf⟩ := ck_e hf
  refine g_iast X dX12_split_210 ha1 hT2 hg3 ?_
  obtain ⟨M4, hM4, hf⟩ := lw_e hf
  rw [← hM4]
  have hT5 : mT M4 a1 = 20 := by rw [hM4]; exact hT2
  cases hf
  refine g_eqQ hK ?_
  exact g_vret X hr dX12_split_211
set_option maxHeartbeats 4000000 in
set_option maxRecDepth 100000 in
theorem t_X12_split_164 (X : gX p s m args meth c D cy B (gSt Z B H0) RX12 cX12_split wsX12_split 8) (hr : meth.sig.returnType = none) {Q : State → Prop} : ∀ (M : gMem) (x0 : Nat) (x1 : Int32) (x2 : Int32) (x3 : Int32) (x4 : Int32) (x5 : Int32) (s0 : Option Nat) (s1 : Int32) (s2 : Int32) (s3 : Int32) (s4 : Int32) (z : (gMem × Int32) ⊕ (Unit × gMem)), b_X12_split_164 M x0 x1 x2 x3 x4 x5 s0 s1 s2 s3 s4 = some z → (Sum.elim (fun (q : gMem × Int32) => gGo p l e rX12_split s m args below meth c D cy B H0 8 0 0 Q 116 [(0, vR (some x0)), (1, vI x1), (2, vI x2), (3, vI x3), (4, vI x4), (5, vI q.2)] [] q.1) (fun (r : Unit × gMem) => Q = gMQ below D cy B H0 args s 0 0 none r.2)) z → gGo p l e rX12_split s m args below meth c D cy B H0 8 0 0 Q 164 [(0, vR (some x0)), (1, vI x1), (2, vI x2), (3, vI x3), (4, vI x4), (5, vI x5)] [vI s4, vI s3, vI s2, vI s1, vR s0] M := by
  intro M x0 x1 x2 x3 x4 x5 s0 s1 s2 s3 s4 z hf hK
  unfold b_X12_split_164 at hf
  refine g_iadd X dX12_split_164 ?_
  refine g_iadd X dX12_split_165 ?_
  obtain ⟨a6, ha6, hf⟩ := dr_e hf
  obtain ⟨hT7, hf⟩ := ck_e hf
  obtain ⟨hg8, hf⟩ := ck_e hf
  refine g_iast X dX12_split_166 ha6 hT7 hg8 ?_
  obtain ⟨M9, hM9, hf⟩ := lw_e hf
  rw [← hM9]
  have hT10 : mT M9 a6 = 20 := by rw [hM9]; exact hT7
  refine g_iinc (v := (1 : Int32)) (lv' := [(5, vI (x5 + (1 : Int32))), (0, vR (some x0)), (1, vI x1), (2, vI x2), (3, vI x3), (4, vI x4)]) X dX12_split_167 rfl (by decide) (by decide) rfl ?_
  refine g_goto (tgt := 116) X dX12_split_170 (by decide) ?_
  cases hf
  refine g_sub (lvsub_of _ _ [1, 2, 3, 4, 5, 0] rfl) ?_
  exact hK
set_option maxHeartbeats 4000000 in
set_option maxRecDepth 100000 in
theorem tb_X12_split_116 (X : gX p s m args meth c D cy B (gSt Z B H0) RX12 cX12_split wsX12_split 8) (hr : meth.sig.returnType = none) {Q : State → Prop} : ∀ (M : gMem) (x0 : Nat) (x1 : Int32) (x2 : Int32) (x3 : Int32) (x4 : Int32) (x5 : Int32) (z : (gMem × Int32) ⊕ (Unit × gMem)), bb_X12_split_116 M x0 x1 x2 x3 x4 x5 = some z → (Sum.elim (fun (q : gMem × Int32) => gGo p l e rX12_split s m args below meth c D cy B H0 8 0 0 Q 116 [(0, vR (some x0)), (1, vI x1), (2, vI x2), (3, vI x3), (4, vI x4), (5, vI q.2)] [] q.1) (fun (r : Unit × gMem) => Q = gMQ below D cy B H0 args s 0 0 none r.2)) z → gGo p l e rX12_split s m args below meth c D cy B H0 8 0 0 Q 116 [(0, vR (some x0)), (1, vI x1), (2, vI x2), (3, vI x3), (4, vI x4), (5, vI x5)] [] M := by
  intro M x0 x1 x2 x3 x4 x5 z hf hK
  unfold bb_X12_split_116 at hf
  refine g_iload X dX12_split_116 rfl ?_
  refine g_iload X dX12_split_118 rfl ?_
  refine g_icmp_ge (tgt := 173) X dX12_split_120 (by decide) (fun hc => ?_) (fun hc => ?_)
  · have hf := ife_t hc hf
    refine g_aload_n X dX12_split_173 rfl rfl ?_
    obtain ⟨hT11, hf⟩ := ck_e hf
    refine g_get (ci := 10) (v := vR (mR M x0 11)) 11 X cdX12 i_X12_split_X12 (by decide) k_X12_split_f47 rfl dX12_split_174 rfl hT11 rfl ?_
    refine g_iload_n X dX12_split_177 rfl rfl ?_
    refine g_dup2 X dX12_split_178 rfl rfl ?_
    obtain ⟨a12, ha12, hf⟩ := dr_e hf
    obtain ⟨hT13, hf⟩ := ck_e hf
    obtain ⟨hg14, hf⟩ := ck_e hf
    refine g_iald X dX12_split_179 ha12 hT13 hg14 ?_
    refine g_iload_n X dX12_split_180 rfl rfl ?_
    refine g_iadd X dX12_split_181 ?_
    obtain ⟨hg15, hf⟩ := ck_e hf
    refine g_iast X dX12_split_182 ha12 hT13 hg15 ?_
    obtain ⟨M16, hM16, hf⟩ := lw_e hf
    rw [← hM16]
    have hT17 : mT M16 x0 = 11 := by rw [hM16]; exact hT11
    have hT18 : mT M16 a12 = 20 := by rw [hM16]; exact hT13
    refine g_aload_n X dX12_split_183 rfl rfl ?_
    refine g_get (ci := 10) (v := vR (mR M16 x0 12)) 12 X cdX12 i_X12_split_X12 (by decide) k_X12_split_f50 rfl dX12_split_184 rfl hT17 rfl ?_
    refine g_iload_n X dX12_split_187 rfl rfl ?_
    refine g_dup2 X dX12_split_188 rfl rfl ?_
    obtain ⟨a19, ha19, hf⟩ := dr_e hf
    obtain ⟨hT20, hf⟩ := ck_e hf
    obtain ⟨hg21, hf⟩ := ck_e hf
    refine g_iald X dX12_split_189 ha19 hT20 hg21 ?_
    refine g_iload_n X dX12_split_190 rfl rfl ?_
    refine g_iadd X dX12_split_191 ?_
    obtain ⟨hg22, hf⟩ := ck_e hf
    refine g_iast X dX12_split_192 ha19 hT20 hg22 ?_
    obtain ⟨M23, hM23, hf⟩ := lw_e hf
    rw [← hM23]
    have hT24 : mT M23 x0 = 11 := by rw [hM23]; exact hT17
    have hT25 : mT M23 a12 = 20 := by rw [hM23]; exact hT18
    have hT26 : mT M23 a19 = 20 := by rw [hM23]; exact hT20
    refine g_aload_n X dX12_split_193 rfl rfl ?_
    refine g_get (ci := 10) (v := vR (mR M23 x0 13)) 13 X cdX12 i_X12_split_X12 (by decide) k_X12_split_f53 rfl dX12_split_194 rfl hT24 rfl ?_
    refine g_iload_n X dX12_split_197 rfl rfl ?_
    refine g_dup2 X dX12_split_198 rfl rfl ?_
    obtain ⟨a27, ha27, hf⟩ := dr_e hf
    obtain ⟨hT28, hf⟩ := ck_e hf
    obtain ⟨hg29, hf⟩ := ck_e hf
    refine g_iald X dX12_split_199 ha27 hT28 hg29 ?_
    refine g_iload_n X dX12_split_200 rfl rfl ?_
    refine g_if_le (tgt := 208) X dX12_split_201 (by decide) (fun hc => ?_) (fun hc => ?_)
    · have hf := ife_t hc hf
      refine g_iconst (v := (0 : Int32)) X dX12_split_208 (by decide) ?_
      obtain ⟨w30, hw30, hz30⟩ := oI_e hf
      subst hz30
      have hf := hw30
      refine g_sub (lvsub_of _ _ [] rfl) ?_
      exact t_X12_split_209 X hr _ _ _ _ _ _ hf hK
    · have hf := ife_f hc hf
      refine g_iconst (v := (1 : Int32)) X dX12_split_204 (by decide) ?_
      refine g_goto (tgt := 209) X dX12_split_205 (by decide) ?_
      obtain ⟨w31, hw31, hz31⟩ := oI_e hf
      subst hz31
      have hf := hw31
      refine g_sub (lvsub_of _ _ [] rfl) ?_
      exact t_X12_split_209 X hr _ _ _ _ _ _ hf hK
  · have hf := ife_f hc hf
    refine g_aload_n X dX12_split_123 rfl rfl ?_
    obtain ⟨hT32, hf⟩ := ck_e hf
    refine g_get (ci := 10) (v := vR (mR M x0 7)) 7 X cdX12 i_X12_split_X12 (by decide) k_X12_split_f35 rfl dX12_split_124 rfl hT32 rfl ?_
    refine g_aload_n X dX12_split_127 rfl rfl ?_
    refine g_get (ci := 10) (v := vR (mR M x0 18)) 18 X cdX12 i_X12_split_X12 (by decide) k_X12_split_f3 rfl dX12_split_128 rfl hT32 rfl ?_
    obtain ⟨a33, ha33, hf⟩ := dr_e hf
    obtain ⟨hT34, hf⟩ := ck_e hf
    refine g_getN (ci := 12) (w := vR (mR M a33 11)) 11 X cdX14 i_X12_split_X14 (by decide) (gNw X _ kn_X12_81) rfl dX12_split_131 ha33 hT34 rfl ?_
    obtain ⟨a35, ha35, hf⟩ := dr_e hf
    obtain ⟨hT36, hf⟩ := ck_e hf
    refine g_getN (ci := 11) (w := vR (mR M a35 14)) 14 X cdX13 i_X12_split_X13 (by decide) (gNw X _ kn_X12_163) rfl dX12_split_134 ha35 hT36 rfl ?_
    refine g_bipush (v := (8 : Int32)) X dX12_split_137 (by decide) ?_
    refine g_iload_n X dX12_split_139 rfl rfl ?_
    refine g_imul X dX12_split_140 ?_
    refine g_iload X dX12_split_141 rfl ?_
    refine g_iadd X dX12_split_143 ?_
    obtain ⟨a37, ha37, hf⟩ := dr_e hf
    obtain ⟨hT38, hf⟩ := ck_e hf
    obtain ⟨hg39, hf⟩ := ck_e hf
    refine g_iald X dX12_split_144 ha37 hT38 hg39 ?_
    refine g_dup2 X dX12_split_145 rfl rfl ?_
    obtain ⟨a40, ha40, hf⟩ := dr_e hf
    obtain ⟨hT41, hf⟩ := ck_e hf
    obtain ⟨hg42, hf⟩ := ck_e hf
    refine g_iald X dX12_split_146 ha40 hT41 hg42 ?_
    refine g_iload_n X dX12_split_147 rfl rfl ?_
    refine g_iload X dX12_split_148 rfl ?_
    obtain ⟨hg43, hf⟩ := ck_e hf
    refine g_idiv X dX12_split_150 hg43 ?_
    refine g_iload X dX12_split_151 rfl ?_
    refine g_if_ne (tgt := 163) X dX12_split_153 (by decide) (fun hc => ?_) (fun hc => ?_)
    · have hf := ife_f hc hf
      refine g_iconst (v := (0 : Int32)) X dX12_split_163 (by decide) ?_
      refine g_sub (lvsub_of _ _ [0, 1, 2, 3, 4, 5] rfl) ?_
      exact t_X12_split_164 X hr _ _ _ _ _ _ _ _ _ _ _ _ _ hf hK
    · have hf := ife_t hc hf
      refine g_iload_n X dX12_split_156 rfl rfl ?_
      refine g_iload X dX12_split_157 rfl ?_
      obtain ⟨hg44, hf⟩ := ck_e hf
      refine g_irem X dX12_split_159 hg44 ?_
      refine g_goto (tgt := 164) X dX12_split_160 (by decide) ?_
      refine g_sub (lvsub_of _ _ [0, 1, 2, 3, 4, 5] rfl) ?_
      exact t_X12_split_164 X hr _ _ _ _ _ _ _ _ _ _ _ _ _ hf hK
set_option maxHeartbeats 4000000 in
set_option maxRecDepth 100000 in
theorem tl_X12_split_116 (X : gX p s m args meth c D cy B (gSt Z B H0) RX12 cX12_split wsX12_split 8) (hr : meth.sig.returnType = none) {Q : State → Prop} : ∀ (M : gMem) (x0 : Nat) (x1 : Int32) (x2 : Int32) (x3 : Int32) (x4 : Int32) (x5 : Int32) (z : Unit × gMem), lp_X12_split_116 M x0 x1 x2 x3 x4 x5 = some z → (fun (r : Unit × gMem) => Q = gMQ below D cy B H0 args s 0 0 none r.2) z → gGo p l e rX12_split s m args below meth c D cy B H0 8 0 0 Q 116 [(0, vR (some x0)), (1, vI x1), (2, vI x2), (3, vI x3), (4, vI x4), (5, vI x5)] [] M := by
  intro M x0 x1 x2 x3 x4 x5 z hf hK
  refine lp_ind (P := (fun (q : gMem × Int32) (z : Unit × gMem) => (fun (r : Unit × gMem) => Q = gMQ below D cy B H0 args s 0 0 none r.2) z → gGo p l e rX12_split s m args below meth c D cy B H0 8 0 0 Q 116 [(0, vR (some x0)), (1, vI x1), (2, vI x2), (3, vI x3), (4, vI x4), (5, vI q.2)] [] q.1)) (fun q z hq => ?_) _ _ hf hK
  intro hK
  obtain ⟨w, hw, hm⟩ := hq
  refine tb_X12_split_116 X hr _ _ _ _ _ _ _ w hw ?_
  cases w with
  | inl a => exact hm hK
  | inr b => cases hm; exact hK
set_option maxHeartbeats 4000000 in
set_option maxRecDepth 100000 in
theorem t_X12_split_78 (X : gX p s m args meth c D cy B (gSt Z B H0) RX12 cX12_split wsX12_split 8) (hr : meth.sig.returnType = none) {Q : State → Prop} : ∀ (M : gMem) (x0 : Nat) (x1 : Int32) (x2 : Int32) (x3 : Int32) (x4 : Int32) (x5 : Int32) (x6 : Int32) (s0 : Int32) (z : (gMem × Int32 × Int32 × Int32) ⊕ (Unit × gMem)), b_X12_split_78 M x0 x1 x2 x3 x4 x5 x6 s0 = some z → (Sum.elim (fun (q : gMem × Int32 × Int32 × Int32) => gGo p l e rX12_split s m args below meth c D cy B H0 8 0 0 Q 21 [(0, vR (some x0)), (1, vI x1), (2, vI q.2.1), (3, vI q.2.2.1), (4, vI x4), (5, vI q.2.2.2)] [] q.1) (fun (r : Unit × gMem) => Q = gMQ below D cy B H0 args s 0 0 none r.2)) z → gGo p l e rX12_split s m args below meth c D cy B H0 8 0 0 Q 78 [(0, vR (some x0)), (1, vI x1), (2, vI x2), (3, vI x3), (4, vI x4), (5, vI x5), (6, vI x6)] [vI s0] M := by
  intro M x0 x1 x2 x3 x4 x5 x6 s0 z hf hK
  unfold b_X12_split_78 at hf
  refine g_istore (lv' := [(7, vI s0), (0, vR (some x0)), (1, vI x1), (2, vI x2), (3, vI x3), (4, vI x4), (5, vI x5), (6, vI x6)]) X dX12_split_78 (by decide) rfl ?_
  refine g_iload_n X dX12_split_80 rfl rfl ?_
  refine g_iload X dX12_split_81 rfl ?_
  refine g_iadd X dX12_split_83 ?_
  refine g_istore_n (lv' := [(2, vI (x2 + s0)), (7, vI s0), (0, vR (some x0)), (1, vI x1), (3, vI x3), (4, vI x4), (5, vI x5), (6, vI x6)]) X dX12_split_84 rfl (by decide) rfl ?_
  refine g_aload_n X dX12_split_85 rfl rfl ?_
  obtain ⟨hT45, hf⟩ := ck_e hf
  refine g_get (ci := 10) (v := vR (mR M x0 7)) 7 X cdX12 i_X12_split_X12 (by decide) k_X12_split_f35 rfl dX12_split_86 rfl hT45 rfl ?_
  refine g_iload X dX12_split_89 rfl ?_
  refine g_dup2 X dX12_split_91 rfl rfl ?_
  obtain ⟨a46, ha46, hf⟩ := dr_e hf
  obtain ⟨hT47, hf⟩ := ck_e hf
  obtain ⟨hg48, hf⟩ := ck_e hf
  refine g_iald X dX12_split_92 ha46 hT47 hg48 ?_
  refine g_iload X dX12_split_93 rfl ?_
  refine g_isub X dX12_split_95 ?_
  obtain ⟨hg49, hf⟩ := ck_e hf
  refine g_iast X dX12_split_96 ha46 hT47 hg49 ?_
  obtain ⟨M50, hM50, hf⟩ := lw_e hf
  rw [← hM50]
  have hT51 : mT M50 x0 = 11 := by rw [hM50]; exact hT45
  have hT52 : mT M50 a46 = 20 := by rw [hM50]; exact hT47
  refine g_iload_n X dX12_split_97 rfl rfl ?_
  refine g_aload_n X dX12_split_98 rfl rfl ?_
  refine g_get (ci := 10) (v := vR (mR M50 x0 7)) 7 X cdX12 i_X12_split_X12 (by decide) k_X12_split_f35 rfl dX12_split_99 rfl hT51 rfl ?_
  refine g_iload X dX12_split_102 rfl ?_
  obtain ⟨a53, ha53, hf⟩ := dr_e hf
  obtain ⟨hT54, hf⟩ := ck_e hf
  obtain ⟨hg55, hf⟩ := ck_e hf
  refine g_iald X dX12_split_104 ha53 hT54 hg55 ?_
  refine g_iadd X dX12_split_105 ?_
  refine g_istore_n (lv' := [(3, vI (x3 + (mI M50 a53 x6.toNatClampNeg))), (2, vI (x2 + s0)), (7, vI s0), (0, vR (some x0)), (1, vI x1), (4, vI x4), (5, vI x5), (6, vI x6)]) X dX12_split_106 rfl (by decide) rfl ?_
  refine g_iinc (v := (1 : Int32)) (lv' := [(5, vI (x5 + (1 : Int32))), (3, vI (x3 + (mI M50 a53 x6.toNatClampNeg))), (2, vI (x2 + s0)), (7, vI s0), (0, vR (some x0)), (1, vI x1), (4, vI x4), (6, vI x6)]) X dX12_split_107 rfl (by decide) (by decide) rfl ?_
  refine g_goto (tgt := 21) X dX12_split_110 (by decide) ?_
  cases hf
  refine g_sub (lvsub_of _ _ [4, 5, 2, 1, 6, 0] rfl) ?_
  exact hK
set_option maxHeartbeats 4000000 in
set_option maxRecDepth 100000 in
theorem tb_X12_split_21 (X : gX p s m args meth c D cy B (gSt Z B H0) RX12 cX12_split wsX12_split 8) (hr : meth.sig.returnType = none) {Q : State → Prop} : ∀ (M : gMem) (x0 : Nat) (x1 : Int32) (x2 : Int32) (x3 : Int32) (x4 : Int32) (x5 : Int32) (z : (gMem × Int32 × Int32 × Int32) ⊕ (Unit × gMem)), bb_X12_split_21 M x0 x1 x2 x3 x4 x5 = some z → (Sum.elim (fun (q : gMem × Int32 × Int32 × Int32) => gGo p l e rX12_split s m args below meth c D cy B H0 8 0 0 Q 21 [(0, vR (some x0)), (1, vI x1), (2, vI q.2.1), (3, vI q.2.2.1), (4, vI x4), (5, vI q.2.2.2)] [] q.1) (fun (r : Unit × gMem) => Q = gMQ below D cy B H0 args s 0 0 none r.2)) z → gGo p l e rX12_split s m args below meth c D cy B H0 8 0 0 Q 21 [(0, vR (some x0)), (1, vI x1), (2, vI x2), (3, vI x3), (4, vI x4), (5, vI x5)] [] M := by
  intro M x0 x1 x2 x3 x4 x5 z hf hK
  unfold bb_X12_split_21 at hf
  refine g_iload X dX12_split_21 rfl ?_
  refine g_iload X dX12_split_23 rfl ?_
  refine g_icmp_ge (tgt := 113) X dX12_split_25 (by decide) (fun hc => ?_) (fun hc => ?_)
  · have hf := ife_t hc hf
    refine g_iconst (v := (0 : Int32)) X dX12_split_113 (by decide) ?_
    refine g_istore (lv' := [(5, vI (0 : Int32)), (0, vR (some x0)), (1, vI x1), (2, vI x2), (3, vI x3), (4, vI x4)]) X dX12_split_114 (by decide) rfl ?_
    obtain ⟨w56, hw56, hz56⟩ := oI_e hf
    subst hz56
    have hf := hw56
    refine g_sub (lvsub_of _ _ [1, 2, 3, 4, 5, 0] rfl) ?_
    exact tl_X12_split_116 X hr _ _ _ _ _ _ _ _ hf hK
  · have hf := ife_f hc hf
    refine g_aload_n X dX12_split_28 rfl rfl ?_
    obtain ⟨hT57, hf⟩ := ck_e hf
    refine g_get (ci := 10) (v := vR (mR M x0 18)) 18 X cdX12 i_X12_split_X12 (by decide) k_X12_split_f3 rfl dX12_split_29 rfl hT57 rfl ?_
    obtain ⟨a58, ha58, hf⟩ := dr_e hf
    obtain ⟨hT59, hf⟩ := ck_e hf
    refine g_getN (ci := 12) (w := vR (mR M a58 11)) 11 X cdX14 i_X12_split_X14 (by decide) (gNw X _ kn_X12_81) rfl dX12_split_32 ha58 hT59 rfl ?_
    obtain ⟨a60, ha60, hf⟩ := dr_e hf
    obtain ⟨hT61, hf⟩ := ck_e hf
    refine g_getN (ci := 11) (w := vR (mR M a60 14)) 14 X cdX13 i_X12_split_X13 (by decide) (gNw X _ kn_X12_163) rfl dX12_split_35 ha60 hT61 rfl ?_
    refine g_bipush (v := (8 : Int32)) X dX12_split_38 (by decide) ?_
    refine g_iload_n X dX12_split_40 rfl rfl ?_
    refine g_imul X dX12_split_41 ?_
    refine g_iload X dX12_split_42 rfl ?_
    refine g_iadd X dX12_split_44 ?_
    obtain ⟨a62, ha62, hf⟩ := dr_e hf
    obtain ⟨hT63, hf⟩ := ck_e hf
    obtain ⟨hg64, hf⟩ := ck_e hf
    refine g_iald X dX12_split_45 ha62 hT63 hg64 ?_
    refine g_istore (lv' := [(6, vI (mI M a62 ((((8 : Int32) * x1) + x5)).toNatClampNeg)), (0, vR (some x0)), (1, vI x1), (2, vI x2), (3, vI x3), (4, vI x4), (5, vI x5)]) X dX12_split_46 (by decide) rfl ?_
    refine g_aload_n X dX12_split_48 rfl rfl ?_
    refine g_get (ci := 10) (v := vR (mR M x0 10)) 10 X cdX12 i_X12_split_X12 (by decide) k_X12_split_f44 rfl dX12_split_49 rfl hT57 rfl ?_
    refine g_iload X dX12_split_52 rfl ?_
    obtain ⟨a65, ha65, hf⟩ := dr_e hf
    obtain ⟨hT66, hf⟩ := ck_e hf
    obtain ⟨hg67, hf⟩ := ck_e hf
    refine g_iald X dX12_split_54 ha65 hT66 hg67 ?_
    refine g_iconst (v := (1 : Int32)) X dX12_split_55 (by decide) ?_
    refine g_icmp_ne (tgt := 71) X dX12_split_56 (by decide) (fun hc => ?_) (fun hc => ?_)
    · have hf := ife_f hc hf
      refine g_aload_n X dX12_split_71 rfl rfl ?_
      refine g_get (ci := 10) (v := vR (mR M x0 7)) 7 X cdX12 i_X12_split_X12 (by decide) k_X12_split_f35 rfl dX12_split_72 rfl hT57 rfl ?_
      refine g_iload X dX12_split_75 rfl ?_
      obtain ⟨a68, ha68, hf⟩ := dr_e hf
      obtain ⟨hT69, hf⟩ := ck_e hf
      obtain ⟨hg70, hf⟩ := ck_e hf
      refine g_iald X dX12_split_77 ha68 hT69 hg70 ?_
      refine g_sub (lvsub_of _ _ [1, 2, 3, 4, 5, 6, 0] rfl) ?_
      exact t_X12_split_78 X hr _ _ _ _ _ _ _ _ _ _ hf hK
    · have hf := ife_t hc hf
      refine g_aload_n X dX12_split_59 rfl rfl ?_
      refine g_get (ci := 10) (v := vR (mR M x0 7)) 7 X cdX12 i_X12_split_X12 (by decide) k_X12_split_f35 rfl dX12_split_60 rfl hT57 rfl ?_
      refine g_iload X dX12_split_63 rfl ?_
      obtain ⟨a71, ha71, hf⟩ := dr_e hf
      obtain ⟨hT72, hf⟩ := ck_e hf
      obtain ⟨hg73, hf⟩ := ck_e hf
      refine g_iald X dX12_split_65 ha71 hT72 hg73 ?_
      refine g_iconst (v := (2 : Int32)) X dX12_split_66 (by decide) ?_
      refine g_idiv X dX12_split_67 (by decide) ?_
      refine g_goto (tgt := 78) X dX12_split_68 (by decide) ?_
      refine g_sub (lvsub_of _ _ [1, 2, 3, 4, 5, 6, 0] rfl) ?_
      exact t_X12_split_78 X hr _ _ _ _ _ _ _ _ _ _ hf hK
set_option maxHeartbeats 4000000 in
set_option maxRecDepth 100000 in
theorem tl_X12_split_21 (X : gX p s m args meth c D cy B (gSt Z B H0) RX12 cX12_split wsX12_split 8) (hr : meth.sig.returnType = none) {Q : State → Prop} : ∀ (M : gMem) (x0 : Nat) (x1 : Int32) (x2 : Int32) (x3 : Int32) (x4 : Int32) (x5 : Int32) (z : Unit × gMem), lp_X12_split_21 M x0 x1 x2 x3 x4 x5 = some z → (fun (r : Unit × gMem) => Q = gMQ below D cy B H0 args s 0 0 none r.2) z → gGo p l e rX12_split s m args below meth c D cy B H0 8 0 0 Q 21 [(0, vR (some x0)), (1, vI x1), (2, vI x2), (3, vI x3), (4, vI x4), (5, vI x5)] [] M := by
  intro M x0 x1 x2 x3 x4 x5 z hf hK
  refine lp_ind (P := (fun (q : gMem × Int32 × Int32 × Int32) (z : Unit × gMem) => (fun (r : Unit × gMem) => Q = gMQ below D cy B H0 args s 0 0 none r.2) z → gGo p l e rX12_split s m args below meth c D cy B H0 8 0 0 Q 21 [(0, vR (some x0)), (1, vI x1), (2, vI q.2.1), (3, vI q.2.2.1), (4, vI x4), (5, vI q.2.2.2)] [] q.1)) (fun q z hq => ?_) _ _ hf hK
  intro hK
  obtain ⟨w, hw, hm⟩ := hq
  refine tb_X12_split_21 X hr _ _ _ _ _ _ _ w hw ?_
  cases w with
  | inl a => exact hm hK
  | inr b => cases hm; exact hK
set_option maxHeartbeats 4000000 in
set_option maxRecDepth 100000 in
theorem t_X12_split_0 (X : gX p s m args meth c D cy B (gSt Z B H0) RX12 cX12_split wsX12_split 8) (hr : meth.sig.returnType = none) {Q : State → Prop} : ∀ (M : gMem) (x0 : Nat) (x1 : Int32) (z : Unit × gMem), b_X12_split_0 M x0 x1 = some z → (fun (r : Unit × gMem) => Q = gMQ below D cy B H0 args s 0 0 none r.2) z → gGo p l e rX12_split s m args below meth c D cy B H0 8 0 0 Q 0 [(0, vR (some x0)), (1, vI x1)] [] M := by
  intro M x0 x1 z hf hK
  unfold b_X12_split_0 at hf
  refine g_iconst (v := (0 : Int32)) X dX12_split_0 (by decide) ?_
  refine g_istore_n (lv' := [(2, vI (0 : Int32)), (0, vR (some x0)), (1, vI x1)]) X dX12_split_1 rfl (by decide) rfl ?_
  refine g_iconst (v := (0 : Int32)) X dX12_split_2 (by decide) ?_
  refine g_istore_n (lv' := [(3, vI (0 : Int32)), (2, vI (0 : Int32)), (0, vR (some x0)), (1, vI x1)]) X dX12_split_3 rfl (by decide) rfl ?_
  refine g_aload_n X dX12_split_4 rfl rfl ?_
  obtain ⟨hT74, hf⟩ := ck_e hf
  refine g_get (ci := 10) (v := vR (mR M x0 18)) 18 X cdX12 i_X12_split_X12 (by decide) k_X12_split_f3 rfl dX12_split_5 rfl hT74 rfl ?_
  obtain ⟨a75, ha75, hf⟩ := dr_e hf
  obtain ⟨hT76, hf⟩ := ck_e hf
  refine g_getN (ci := 12) (w := vR (mR M a75 11)) 11 X cdX14 i_X12_split_X14 (by decide) (gNw X _ kn_X12_81) rfl dX12_split_8 ha75 hT76 rfl ?_
  obtain ⟨a77, ha77, hf⟩ := dr_e hf
  obtain ⟨hT78, hf⟩ := ck_e hf
  refine g_getN (ci := 11) (w := vR (mR M a77 13)) 13 X cdX13 i_X12_split_X13 (by decide) (gNw X _ kn_X12_160) rfl dX12_split_11 ha77 hT78 rfl ?_
  refine g_iload_n X dX12_split_14 rfl rfl ?_
  obtain ⟨a79, ha79, hf⟩ := dr_e hf
  obtain ⟨hT80, hf⟩ := ck_e hf
  obtain ⟨hg81, hf⟩ := ck_e hf
  refine g_iald X dX12_split_15 ha79 hT80 hg81 ?_
  refine g_istore (lv' := [(4, vI (mI M a79 x1.toNatClampNeg)), (3, vI (0 : Int32)), (2, vI (0 : Int32)), (0, vR (some x0)), (1, vI x1)]) X dX12_split_16 (by decide) rfl ?_
  refine g_iconst (v := (0 : Int32)) X dX12_split_18 (by decide) ?_
  refine g_istore (lv' := [(5, vI (0 : Int32)), (4, vI (mI M a79 x1.toNatClampNeg)), (3, vI (0 : Int32)), (2, vI (0 : Int32)), (0, vR (some x0)), (1, vI x1)]) X dX12_split_19 (by decide) rfl ?_
  refine g_sub (lvsub_of _ _ [4, 5, 3, 2, 1, 0] rfl) ?_
  exact tl_X12_split_21 X hr _ _ _ _ _ _ _ _ hf hK
set_option maxHeartbeats 4000000 in
set_option maxRecDepth 100000 in
theorem m_X12_split (l : Launch) {D : va_G} {cy : Nat → ClassId} {B : Nat} {H0 : Heap} {Z : Nat → Nat} {M M1 : gMem} {x0 : Nat} {x1 : Int32} {r : Unit} (hf : f_X12_split M x0 x1 = some (r, M1)) : Met l yX12_split wsX12_split rX12_split (va_Pc (Value.ref x0 :: List.map gv [vI x1]) (gPre D cy B H0 (gSt Z B H0) M)) (gQ D cy B H0 none M1) 0 0 (gA B) := by
  refine Met.ofW (cc := cX12_split) (maxL := 8) (ret := none) (by decide) rfl ?_
  intro p e s m args below meth c s₁ Bd hml hv
  obtain ⟨rfl, hW, hKK, hFs⟩ := hv
  have X : gX p s m _ meth c D cy B (gSt Z B H0) RX12 cX12_split wsX12_split 8 := ⟨Bd.exec, Bd.bytes, atoms_spec (ws := wsX12_split) Bd.pre, findClass_of_methodNamed Bd.named, hml, hKK, by rw [hW.1]; exact hW.2.1, Bd.notSynchronized, hFs⟩
  have hr := Bd.returns
  have hl := lv_entry ([.ref x0, .int x1]) (n := 8) (Nat.le_of_ble_eq_true rfl)
  show W p l e rX12_split s m _ below meth c s.heap [] 0 0 _ (entryFrame m ([.ref x0, .int x1] : List Value).toArray 8)
  rw [lg_entry_eq]
  generalize (lg_sl ([.ref x0, .int x1]) ++ List.replicate (8 - (lg_sl ([.ref x0, .int x1])).length) Slot.unset).toArray = ls at hl ⊢
  have hl : lv_has ls 8 (List.map gq [(0, vR (some x0)), (1, vI x1)]) := hl
  exact t_X12_split_0 X hr _ _ _ _ hf rfl s.heap [] ls hW va_S.rf (lv_has_sub hl (lvsub_of _ _ [0, 1] rfl))
/-! ## TideLotsModel$State.fishFor(II)V -/
theorem dX12_fishFor_0 : decode cX12_fishFor 0 = .ok (.iconst 0, 1) := by decide +kernel
theorem dX12_fishFor_1 : decode cX12_fishFor 1 = .ok (.istore_n 3, 1) := by decide +kernel
theorem dX12_fishFor_2 : decode cX12_fishFor 2 = .ok (.iconst 0, 1) := by decide +kernel
theorem dX12_fishFor_3 : decode cX12_fishFor 3 = .ok (.istore 4, 2) := by decide +kernel
theorem dX12_fishFor_5 : decode cX12_fishFor 5 = .ok (.iconst 1, 1) := by decide +kernel
theorem dX12_fishFor_6 : decode cX12_fishFor 6 = .ok (.istore 5, 2) := by decide +kernel
theorem dX12_fishFor_8 : decode cX12_fishFor 8 = .ok (.iconst 1, 1) := by decide +kernel
theorem dX12_fishFor_9 : decode cX12_fishFor 9 = .ok (.istore 6, 2) := by decide +kernel
theorem dX12_fishFor_11 : decode cX12_fishFor 11 = .ok (.iload 6, 2) := by decide +kernel
theorem dX12_fishFor_13 : decode cX12_fishFor 13 = .ok (.iconst 5, 1) := by decide +kernel
theorem dX12_fishFor_14 : decode cX12_fishFor 14 = .ok (.if_icmp .gt 17, 3) := by decide +kernel
theorem dX12_fishFor_17 : decode cX12_fishFor 17 = .ok (.aload_n 0, 1) := by decide +kernel
theorem dX12_fishFor_18 : decode cX12_fishFor 18 = .ok (.getfield 62, 3) := by decide +kernel
theorem dX12_fishFor_21 : decode cX12_fishFor 21 = .ok (.iload 6, 2) := by decide +kernel
theorem dX12_fishFor_23 : decode cX12_fishFor 23 = .ok (.iconst 0, 1) := by decide +kernel
theorem dX12_fishFor_24 : decode cX12_fishFor 24 = .ok (.iastore, 1) := by decide +kernel
theorem dX12_fishFor_25 : decode cX12_fishFor 25 = .ok (.iinc 6 1, 3) := by decide +kernel
theorem dX12_fishFor_28 : decode cX12_fishFor 28 = .ok (.goto (-17), 3) := by decide +kernel
theorem dX12_fishFor_31 : decode cX12_fishFor 31 = .ok (.iconst 5, 1) := by decide +kernel
theorem dX12_fishFor_32 : decode cX12_fishFor 32 = .ok (.istore 6, 2) := by decide +kernel
theorem dX12_fishFor_34 : decode cX12_fishFor 34 = .ok (.iload 6, 2) := by decide +kernel
theorem dX12_fishFor_36 : decode cX12_fishFor 36 = .ok (.aload_n 0, 1) := by decide +kernel
theorem dX12_fishFor_37 : decode cX12_fishFor 37 = .ok (.getfield 29, 3) := by decide +kernel
theorem dX12_fishFor_40 : decode cX12_fishFor 40 = .ok (.iload_n 1, 1) := by decide +kernel
theorem dX12_fishFor_41 : decode cX12_fishFor 41 = .ok (.iaload, 1) := by decide +kernel
theorem dX12_fishFor_42 : decode cX12_fishFor 42 = .ok (.if_icmp .lt 127, 3) := by decide +kernel
theorem dX12_fishFor_45 : decode cX12_fishFor 45 = .ok (.iload 5, 2) := by decide +kernel
theorem dX12_fishFor_47 : decode cX12_fishFor 47 = .ok (.ifCond .eq 122, 3) := by decide +kernel
theorem dX12_fishFor_50 : decode cX12_fishFor 50 = .ok (.iload 5, 2) := by decide +kernel
theorem dX12_fishFor_52 : decode cX12_fishFor 52 = .ok (.ifCond .eq 111, 3) := by decide +kernel
theorem dX12_fishFor_55 : decode cX12_fishFor 55 = .ok (.aload_n 0, 1) := by decide +kernel
theorem dX12_fishFor_56 : decode cX12_fishFor 56 = .ok (.getfield 19, 3) := by decide +kernel
theorem dX12_fishFor_59 : decode cX12_fishFor 59 = .ok (.iconst 5, 1) := by decide +kernel
theorem dX12_fishFor_60 : decode cX12_fishFor 60 = .ok (.iload_n 2, 1) := by decide +kernel
theorem dX12_fishFor_61 : decode cX12_fishFor 61 = .ok (.imul, 1) := by decide +kernel
theorem dX12_fishFor_62 : decode cX12_fishFor 62 = .ok (.iload 6, 2) := by decide +kernel
theorem dX12_fishFor_64 : decode cX12_fishFor 64 = .ok (.iadd, 1) := by decide +kernel
theorem dX12_fishFor_65 : decode cX12_fishFor 65 = .ok (.iconst 1, 1) := by decide +kernel
theorem dX12_fishFor_66 : decode cX12_fishFor 66 = .ok (.isub, 1) := by decide +kernel
theorem dX12_fishFor_67 : decode cX12_fishFor 67 = .ok (.iaload, 1) := by decide +kernel
theorem dX12_fishFor_68 : decode cX12_fishFor 68 = .ok (.ifCond .le 95, 3) := by decide +kernel
theorem dX12_fishFor_71 : decode cX12_fishFor 71 = .ok (.iload_n 3, 1) := by decide +kernel
theorem dX12_fishFor_72 : decode cX12_fishFor 72 = .ok (.aload_n 0, 1) := by decide +kernel
theorem dX12_fishFor_73 : decode cX12_fishFor 73 = .ok (.getfield 3, 3) := by decide +kernel
theorem dX12_fishFor_76 : decode cX12_fishFor 76 = .ok (.getfield 81, 3) := by decide +kernel
theorem dX12_fishFor_79 : decode cX12_fishFor 79 = .ok (.getfield 176, 3) := by decide +kernel
theorem dX12_fishFor_82 : decode cX12_fishFor 82 = .ok (.iload_n 1, 1) := by decide +kernel
theorem dX12_fishFor_83 : decode cX12_fishFor 83 = .ok (.iaload, 1) := by decide +kernel
theorem dX12_fishFor_84 : decode cX12_fishFor 84 = .ok (.if_icmp .ge 79, 3) := by decide +kernel
theorem dX12_fishFor_87 : decode cX12_fishFor 87 = .ok (.iload 4, 2) := by decide +kernel
theorem dX12_fishFor_89 : decode cX12_fishFor 89 = .ok (.iload 6, 2) := by decide +kernel
theorem dX12_fishFor_91 : decode cX12_fishFor 91 = .ok (.iadd, 1) := by decide +kernel
theorem dX12_fishFor_92 : decode cX12_fishFor 92 = .ok (.aload_n 0, 1) := by decide +kernel
theorem dX12_fishFor_93 : decode cX12_fishFor 93 = .ok (.getfield 3, 3) := by decide +kernel
theorem dX12_fishFor_96 : decode cX12_fishFor 96 = .ok (.getfield 81, 3) := by decide +kernel
theorem dX12_fishFor_99 : decode cX12_fishFor 99 = .ok (.getfield 179, 3) := by decide +kernel
theorem dX12_fishFor_102 : decode cX12_fishFor 102 = .ok (.iload_n 1, 1) := by decide +kernel
theorem dX12_fishFor_103 : decode cX12_fishFor 103 = .ok (.iaload, 1) := by decide +kernel
theorem dX12_fishFor_104 : decode cX12_fishFor 104 = .ok (.if_icmp .gt 7, 3) := by decide +kernel
theorem dX12_fishFor_107 : decode cX12_fishFor 107 = .ok (.iconst 1, 1) := by decide +kernel
theorem dX12_fishFor_108 : decode cX12_fishFor 108 = .ok (.goto 4, 3) := by decide +kernel
theorem dX12_fishFor_111 : decode cX12_fishFor 111 = .ok (.iconst 0, 1) := by decide +kernel
theorem dX12_fishFor_112 : decode cX12_fishFor 112 = .ok (.istore 5, 2) := by decide +kernel
theorem dX12_fishFor_114 : decode cX12_fishFor 114 = .ok (.iload 5, 2) := by decide +kernel
theorem dX12_fishFor_116 : decode cX12_fishFor 116 = .ok (.ifCond .ne 6, 3) := by decide +kernel
theorem dX12_fishFor_119 : decode cX12_fishFor 119 = .ok (.goto (-69), 3) := by decide +kernel
theorem dX12_fishFor_122 : decode cX12_fishFor 122 = .ok (.aload_n 0, 1) := by decide +kernel
theorem dX12_fishFor_123 : decode cX12_fishFor 123 = .ok (.getfield 19, 3) := by decide +kernel
theorem dX12_fishFor_126 : decode cX12_fishFor 126 = .ok (.iconst 5, 1) := by decide +kernel
theorem dX12_fishFor_127 : decode cX12_fishFor 127 = .ok (.iload_n 2, 1) := by decide +kernel
theorem dX12_fishFor_128 : decode cX12_fishFor 128 = .ok (.imul, 1) := by decide +kernel
theorem dX12_fishFor_129 : decode cX12_fishFor 129 = .ok (.iload 6, 2) := by decide +kernel
theorem dX12_fishFor_131 : decode cX12_fishFor 131 = .ok (.iadd, 1) := by decide +kernel
theorem dX12_fishFor_132 : decode cX12_fishFor 132 = .ok (.iconst 1, 1) := by decide +kernel
theorem dX12_fishFor_133 : decode cX12_fishFor 133 = .ok (.isub, 1) := by decide +kernel
theorem dX12_fishFor_134 : decode cX12_fishFor 134 = .ok (.dup2, 1) := by decide +kernel
theorem dX12_fishFor_135 : decode cX12_fishFor 135 = .ok (.iaload, 1) := by decide +kernel
theorem dX12_fishFor_136 : decode cX12_fishFor 136 = .ok (.iconst 1, 1) := by decide +kernel
theorem dX12_fishFor_137 : decode cX12_fishFor 137 = .ok (.isub, 1) := by decide +kernel
theorem dX12_fishFor_138 : decode cX12_fishFor 138 = .ok (.iastore, 1) := by decide +kernel
theorem dX12_fishFor_139 : decode cX12_fishFor 139 = .ok (.aload_n 0, 1) := by decide +kernel
theorem dX12_fishFor_140 : decode cX12_fishFor 140 = .ok (.getfield 62, 3) := by decide +kernel
theorem dX12_fishFor_143 : decode cX12_fishFor 143 = .ok (.iload 6, 2) := by decide +kernel
theorem dX12_fishFor_145 : decode cX12_fishFor 145 = .ok (.dup2, 1) := by decide +kernel
theorem dX12_fishFor_146 : decode cX12_fishFor 146 = .ok (.iaload, 1) := by decide +kernel
theorem dX12_fishFor_147 : decode cX12_fishFor 147 = .ok (.iconst 1, 1) := by decide +kernel
theorem dX12_fishFor_148 : decode cX12_fishFor 148 = .ok (.iadd, 1) := by decide +kernel
theorem dX12_fishFor_149 : decode cX12_fishFor 149 = .ok (.iastore, 1) := by decide +kernel
theorem dX12_fishFor_150 : decode cX12_fishFor 150 = .ok (.iinc 3 1, 3) := by decide +kernel
theorem dX12_fishFor_153 : decode cX12_fishFor 153 = .ok (.iload 4, 2) := by decide +kernel
theorem dX12_fishFor_155 : decode cX12_fishFor 155 = .ok (.iload 6, 2) := by decide +kernel
theorem dX12_fishFor_157 : decode cX12_fishFor 157 = .ok (.iadd, 1) := by decide +kernel
theorem dX12_fishFor_158 : decode cX12_fishFor 158 = .ok (.istore 4, 2) := by decide +kernel
theorem dX12_fishFor_160 : decode cX12_fishFor 160 = .ok (.goto (-110), 3) := by decide +kernel
theorem dX12_fishFor_163 : decode cX12_fishFor 163 = .ok (.iinc 6 (-1), 3) := by decide +kernel
theorem dX12_fishFor_166 : decode cX12_fishFor 166 = .ok (.goto (-132), 3) := by decide +kernel
theorem dX12_fishFor_169 : decode cX12_fishFor 169 = .ok (.iload 5, 2) := by decide +kernel
theorem dX12_fishFor_171 : decode cX12_fishFor 171 = .ok (.ifCond .ne 100, 3) := by decide +kernel
theorem dX12_fishFor_174 : decode cX12_fishFor 174 = .ok (.aload_n 0, 1) := by decide +kernel
theorem dX12_fishFor_175 : decode cX12_fishFor 175 = .ok (.getfield 29, 3) := by decide +kernel
theorem dX12_fishFor_178 : decode cX12_fishFor 178 = .ok (.iload_n 1, 1) := by decide +kernel
theorem dX12_fishFor_179 : decode cX12_fishFor 179 = .ok (.bipush 6, 2) := by decide +kernel
theorem dX12_fishFor_181 : decode cX12_fishFor 181 = .ok (.aload_n 0, 1) := by decide +kernel
theorem dX12_fishFor_182 : decode cX12_fishFor 182 = .ok (.getfield 29, 3) := by decide +kernel
theorem dX12_fishFor_185 : decode cX12_fishFor 185 = .ok (.iload_n 1, 1) := by decide +kernel
theorem dX12_fishFor_186 : decode cX12_fishFor 186 = .ok (.iaload, 1) := by decide +kernel
theorem dX12_fishFor_187 : decode cX12_fishFor 187 = .ok (.iconst 1, 1) := by decide +kernel
theorem dX12_fishFor_188 : decode cX12_fishFor 188 = .ok (.iadd, 1) := by decide +kernel
theorem dX12_fishFor_189 : decode cX12_fishFor 189 = .ok (.invokestatic 96, 3) := by decide +kernel
theorem dX12_fishFor_192 : decode cX12_fishFor 192 = .ok (.iastore, 1) := by decide +kernel
theorem dX12_fishFor_193 : decode cX12_fishFor 193 = .ok (.aload_n 0, 1) := by decide +kernel
theorem dX12_fishFor_194 : decode cX12_fishFor 194 = .ok (.getfield 41, 3) := by decide +kernel
theorem dX12_fishFor_197 : decode cX12_fishFor 197 = .ok (.iload_n 1, 1) := by decide +kernel
theorem dX12_fishFor_198 : decode cX12_fishFor 198 = .ok (.dup2, 1) := by decide +kernel
theorem dX12_fishFor_199 : decode cX12_fishFor 199 = .ok (.iaload, 1) := by decide +kernel
theorem dX12_fishFor_200 : decode cX12_fishFor 200 = .ok (.iconst 1, 1) := by decide +kernel
theorem dX12_fishFor_201 : decode cX12_fishFor 201 = .ok (.iadd, 1) := by decide +kernel
theorem dX12_fishFor_202 : decode cX12_fishFor 202 = .ok (.iastore, 1) := by decide +kernel
theorem dX12_fishFor_203 : decode cX12_fishFor 203 = .ok (.iconst 1, 1) := by decide +kernel
theorem dX12_fishFor_204 : decode cX12_fishFor 204 = .ok (.istore 6, 2) := by decide +kernel
theorem dX12_fishFor_206 : decode cX12_fishFor 206 = .ok (.iload 6, 2) := by decide +kernel
theorem dX12_fishFor_208 : decode cX12_fishFor 208 = .ok (.aload_n 0, 1) := by decide +kernel
theorem dX12_fishFor_209 : decode cX12_fishFor 209 = .ok (.getfield 29, 3) := by decide +kernel
theorem dX12_fishFor_212 : decode cX12_fishFor 212 = .ok (.iload_n 1, 1) := by decide +kernel
theorem dX12_fishFor_213 : decode cX12_fishFor 213 = .ok (.iaload, 1) := by decide +kernel
theorem dX12_fishFor_214 : decode cX12_fishFor 214 = .ok (.if_icmp .ge 57, 3) := by decide +kernel
theorem dX12_fishFor_217 : decode cX12_fishFor 217 = .ok (.aload_n 0, 1) := by decide +kernel
theorem dX12_fishFor_218 : decode cX12_fishFor 218 = .ok (.getfield 19, 3) := by decide +kernel
theorem dX12_fishFor_221 : decode cX12_fishFor 221 = .ok (.iconst 5, 1) := by decide +kernel
theorem dX12_fishFor_222 : decode cX12_fishFor 222 = .ok (.iload_n 2, 1) := by decide +kernel
theorem dX12_fishFor_223 : decode cX12_fishFor 223 = .ok (.imul, 1) := by decide +kernel
theorem dX12_fishFor_224 : decode cX12_fishFor 224 = .ok (.iload 6, 2) := by decide +kernel
theorem dX12_fishFor_226 : decode cX12_fishFor 226 = .ok (.iadd, 1) := by decide +kernel
theorem dX12_fishFor_227 : decode cX12_fishFor 227 = .ok (.iconst 1, 1) := by decide +kernel
theorem dX12_fishFor_228 : decode cX12_fishFor 228 = .ok (.isub, 1) := by decide +kernel
theorem dX12_fishFor_229 : decode cX12_fishFor 229 = .ok (.dup2, 1) := by decide +kernel
theorem dX12_fishFor_230 : decode cX12_fishFor 230 = .ok (.iaload, 1) := by decide +kernel
theorem dX12_fishFor_231 : decode cX12_fishFor 231 = .ok (.aload_n 0, 1) := by decide +kernel
theorem dX12_fishFor_232 : decode cX12_fishFor 232 = .ok (.getfield 62, 3) := by decide +kernel
theorem dX12_fishFor_235 : decode cX12_fishFor 235 = .ok (.iload 6, 2) := by decide +kernel
theorem dX12_fishFor_237 : decode cX12_fishFor 237 = .ok (.iaload, 1) := by decide +kernel
theorem dX12_fishFor_238 : decode cX12_fishFor 238 = .ok (.iadd, 1) := by decide +kernel
theorem dX12_fishFor_239 : decode cX12_fishFor 239 = .ok (.iastore, 1) := by decide +kernel
theorem dX12_fishFor_240 : decode cX12_fishFor 240 = .ok (.iload_n 3, 1) := by decide +kernel
theorem dX12_fishFor_241 : decode cX12_fishFor 241 = .ok (.aload_n 0, 1) := by decide +kernel
theorem dX12_fishFor_242 : decode cX12_fishFor 242 = .ok (.getfield 62, 3) := by decide +kernel
theorem dX12_fishFor_245 : decode cX12_fishFor 245 = .ok (.iload 6, 2) := by decide +kernel
theorem dX12_fishFor_247 : decode cX12_fishFor 247 = .ok (.iaload, 1) := by decide +kernel
theorem dX12_fishFor_248 : decode cX12_fishFor 248 = .ok (.isub, 1) := by decide +kernel
theorem dX12_fishFor_249 : decode cX12_fishFor 249 = .ok (.istore_n 3, 1) := by decide +kernel
theorem dX12_fishFor_250 : decode cX12_fishFor 250 = .ok (.iload 4, 2) := by decide +kernel
theorem dX12_fishFor_252 : decode cX12_fishFor 252 = .ok (.iload 6, 2) := by decide +kernel
theorem dX12_fishFor_254 : decode cX12_fishFor 254 = .ok (.aload_n 0, 1) := by decide +kernel
theorem dX12_fishFor_255 : decode cX12_fishFor 255 = .ok (.getfield 62, 3) := by decide +kernel
theorem dX12_fishFor_258 : decode cX12_fishFor 258 = .ok (.iload 6, 2) := by decide +kernel
theorem dX12_fishFor_260 : decode cX12_fishFor 260 = .ok (.iaload, 1) := by decide +kernel
theorem dX12_fishFor_261 : decode cX12_fishFor 261 = .ok (.imul, 1) := by decide +kernel
theorem dX12_fishFor_262 : decode cX12_fishFor 262 = .ok (.isub, 1) := by decide +kernel
theorem dX12_fishFor_263 : decode cX12_fishFor 263 = .ok (.istore 4, 2) := by decide +kernel
theorem dX12_fishFor_265 : decode cX12_fishFor 265 = .ok (.iinc 6 1, 3) := by decide +kernel
theorem dX12_fishFor_268 : decode cX12_fishFor 268 = .ok (.goto (-62), 3) := by decide +kernel
theorem dX12_fishFor_271 : decode cX12_fishFor 271 = .ok (.aload_n 0, 1) := by decide +kernel
theorem dX12_fishFor_272 : decode cX12_fishFor 272 = .ok (.getfield 35, 3) := by decide +kernel
theorem dX12_fishFor_275 : decode cX12_fishFor 275 = .ok (.iload_n 1, 1) := by decide +kernel
theorem dX12_fishFor_276 : decode cX12_fishFor 276 = .ok (.iload 4, 2) := by decide +kernel
theorem dX12_fishFor_278 : decode cX12_fishFor 278 = .ok (.iastore, 1) := by decide +kernel
theorem dX12_fishFor_279 : decode cX12_fishFor 279 = .ok (.aload_n 0, 1) := by decide +kernel
theorem dX12_fishFor_280 : decode cX12_fishFor 280 = .ok (.getfield 26, 3) := by decide +kernel
theorem dX12_fishFor_283 : decode cX12_fishFor 283 = .ok (.bipush 8, 2) := by decide +kernel
theorem dX12_fishFor_285 : decode cX12_fishFor 285 = .ok (.iload_n 2, 1) := by decide +kernel
theorem dX12_fishFor_286 : decode cX12_fishFor 286 = .ok (.imul, 1) := by decide +kernel
theorem dX12_fishFor_287 : decode cX12_fishFor 287 = .ok (.iload_n 1, 1) := by decide +kernel
theorem dX12_fishFor_288 : decode cX12_fishFor 288 = .ok (.iadd, 1) := by decide +kernel
theorem dX12_fishFor_289 : decode cX12_fishFor 289 = .ok (.dup2, 1) := by decide +kernel
theorem dX12_fishFor_290 : decode cX12_fishFor 290 = .ok (.iaload, 1) := by decide +kernel
theorem dX12_fishFor_291 : decode cX12_fishFor 291 = .ok (.iload_n 3, 1) := by decide +kernel
theorem dX12_fishFor_292 : decode cX12_fishFor 292 = .ok (.iadd, 1) := by decide +kernel
theorem dX12_fishFor_293 : decode cX12_fishFor 293 = .ok (.iastore, 1) := by decide +kernel
theorem dX12_fishFor_294 : decode cX12_fishFor 294 = .ok (.return_, 1) := by decide +kernel
theorem k_X12_fishFor_f35 : Cond.fieldLink RX12 35 "TideLotsModel$State" "caught" "[I" ∈ wsX12_fishFor := by decide +kernel
theorem i_X12_fishFor_X12 : ∀ w ∈ u_ws RX12 TX12 19, w ∈ wsX12_fishFor := by decide +kernel
theorem k_X12_fishFor_f26 : Cond.fieldLink RX12 26 "TideLotsModel$State" "took" "[I" ∈ wsX12_fishFor := by decide +kernel
theorem k_X12_fishFor_f29 : Cond.fieldLink RX12 29 "TideLotsModel$State" "mesh" "[I" ∈ wsX12_fishFor := by decide +kernel
theorem k_X12_fishFor_f19 : Cond.fieldLink RX12 19 "TideLotsModel$State" "fish" "[I" ∈ wsX12_fishFor := by decide +kernel
theorem k_X12_fishFor_f62 : Cond.fieldLink RX12 62 "TideLotsModel$State" "net" "[I" ∈ wsX12_fishFor := by decide +kernel
theorem k_X12_fishFor_m96 : Cond.methodLink RX12 96 Lib.Math.min.name ∈ wsX12_fishFor := by decide +kernel
theorem k_X12_fishFor_mmins : Cond.static Lib.Math.min.name ∈ wsX12_fishFor := by decide +kernel
theorem k_X12_fishFor_mi : Cond.initialized "java/lang/Math" ∈ wsX12_fishFor := by decide +kernel
theorem k_X12_fishFor_mminc : Cond.code Lib.Math.min.name Lib.Math.min.code 2 (some .int) ∈ wsX12_fishFor := by decide +kernel
theorem k_X12_fishFor_f41 : Cond.fieldLink RX12 41 "TideLotsModel$State" "tears" "[I" ∈ wsX12_fishFor := by decide +kernel
theorem k_X12_fishFor_f3 : Cond.fieldLink RX12 3 "TideLotsModel$State" "this$0" "LTideLotsModel;" ∈ wsX12_fishFor := by decide +kernel
theorem i_X12_fishFor_X14 : ∀ w ∈ u_ws RX14 TX14 15, w ∈ wsX12_fishFor := by decide +kernel
theorem kn_X12_176 : Cond.fieldLinkNest "TideLotsModel$State" (176 : Nat) "TideLotsModel$Told" "hold" "[I" "TideLotsModel" ∈ gNs := by decide +kernel
theorem i_X12_fishFor_X13 : ∀ w ∈ u_ws RX13 TX13 25, w ∈ wsX12_fishFor := by decide +kernel
theorem kn_X12_179 : Cond.fieldLinkNest "TideLotsModel$State" (179 : Nat) "TideLotsModel$Told" "net" "[I" "TideLotsModel" ∈ gNs := by decide +kernel
abbrev rX12_fishFor : Room := { frames := 1, cells := 0, slots := 0, locals := 15 }
noncomputable def b_X12_fishFor_271 (M : gMem) (x0 : Nat) (x1 : Int32) (x2 : Int32) (x3 : Int32) (x4 : Int32) : Option (Unit × gMem) :=
  ck (mT M x0 = 11) <| dr ((mR M x0 7)) fun a2 => ck (mT M a2 = 20) <| ck (inb x1 (mL M a2)) <| lw (wI M a2 x1.toNatClampNeg x4) fun M5 => dr ((mR M5 x0 4)) fun a8 => ck (mT M5 a8 = 20) <| ck (inb (((8 : Int32) * x2) + x1) (mL M5 a8)) <| ck (inb (((8 : Int32) * x2) + x1) (mL M5 a8)) <| lw (wI M5 a8 ((((8 : Int32) * x2) + x1)).toNatClampNeg (((mI M5 a8 ((((8 : Int32) * x2) + x1)).toNatClampNeg) + x3))) fun M12 => some ((), M12)
noncomputable def bb_X12_fishFor_206 (M : gMem) (x0 : Nat) (x1 : Int32) (x2 : Int32) (x3 : Int32) (x4 : Int32) (x6 : Int32) : Option ((gMem × Int32 × Int32 × Int32) ⊕ (Unit × gMem)) :=
  ck (mT M x0 = 11) <| dr ((mR M x0 5)) fun a17 => ck (mT M a17 = 20) <| ck (inb x1 (mL M a17)) <| (if (mI M a17 x1.toNatClampNeg) ≤ x6 then oI (b_X12_fishFor_271 M x0 x1 x2 x3 x4) else dr ((mR M x0 2)) fun a21 => ck (mT M a21 = 20) <| ck (inb ((((5 : Int32) * x2) + x6) - (1 : Int32)) (mL M a21)) <| dr ((mR M x0 16)) fun a24 => ck (mT M a24 = 20) <| ck (inb x6 (mL M a24)) <| ck (inb ((((5 : Int32) * x2) + x6) - (1 : Int32)) (mL M a21)) <| lw (wI M a21 (((((5 : Int32) * x2) + x6) - (1 : Int32))).toNatClampNeg (((mI M a21 (((((5 : Int32) * x2) + x6) - (1 : Int32))).toNatClampNeg) + (mI M a24 x6.toNatClampNeg)))) fun M28 => dr ((mR M28 x0 16)) fun a33 => ck (mT M28 a33 = 20) <| ck (inb x6 (mL M28 a33)) <| ck (inb x6 (mL M28 a33)) <| some (.inl (M28, (x3 - (mI M28 a33 x6.toNatClampNeg)), (x4 - (x6 * (mI M28 a33 x6.toNatClampNeg))), (x6 + (1 : Int32)))))
noncomputable def lp_X12_fishFor_206 (M : gMem) (x0 : Nat) (x1 : Int32) (x2 : Int32) (x3 : Int32) (x4 : Int32) (x6 : Int32) : Option (Unit × gMem) :=
  lp (fun (q : gMem × Int32 × Int32 × Int32) => bb_X12_fishFor_206 q.1 x0 x1 x2 q.2.1 q.2.2.1 q.2.2.2) (M, x3, x4, x6)
noncomputable def b_X12_fishFor_169 (M : gMem) (x0 : Nat) (x1 : Int32) (x2 : Int32) (x3 : Int32) (x4 : Int32) (x5 : Int32) : Option (Unit × gMem) :=
  (if x5 = 0 then ck (mT M x0 = 11) <| dr ((mR M x0 5)) fun a38 => ck (mT M a38 = 20) <| ck (inb x1 (mL M a38)) <| ck (inb x1 (mL M a38)) <| lw (wI M a38 x1.toNatClampNeg ((imin ((6 : Int32)) (((mI M a38 x1.toNatClampNeg) + (1 : Int32)))))) fun M42 => dr ((mR M42 x0 9)) fun a45 => ck (mT M42 a45 = 20) <| ck (inb x1 (mL M42 a45)) <| ck (inb x1 (mL M42 a45)) <| lw (wI M42 a45 x1.toNatClampNeg (((mI M42 a45 x1.toNatClampNeg) + (1 : Int32)))) fun M49 => lp_X12_fishFor_206 M49 x0 x1 x2 x3 x4 ((1 : Int32)) else b_X12_fishFor_271 M x0 x1 x2 x3 x4)
noncomputable def b_X12_fishFor_163 (M : gMem) (x0 : Nat) (x1 : Int32) (x2 : Int32) (x3 : Int32) (x4 : Int32) (x5 : Int32) (x6 : Int32) : Option ((gMem × Int32 × Int32 × Int32 × Int32) ⊕ (Unit × gMem)) :=
  some (.inl (M, x3, x4, x5, (x6 + (-1 : Int32))))
noncomputable def b_X12_fishFor_112 (M : gMem) (x0 : Nat) (x1 : Int32) (x2 : Int32) (x3 : Int32) (x4 : Int32) (x6 : Int32) (s0 : Int32) : Option ((gMem × Int32 × Int32 × Int32) ⊕ ((gMem × Int32 × Int32 × Int32 × Int32) ⊕ (Unit × gMem))) :=
  (if s0 = 0 then some (.inl (M, x3, x4, s0)) else ck (mT M x0 = 11) <| dr ((mR M x0 2)) fun a54 => ck (mT M a54 = 20) <| ck (inb ((((5 : Int32) * x2) + x6) - (1 : Int32)) (mL M a54)) <| ck (inb ((((5 : Int32) * x2) + x6) - (1 : Int32)) (mL M a54)) <| lw (wI M a54 (((((5 : Int32) * x2) + x6) - (1 : Int32))).toNatClampNeg (((mI M a54 (((((5 : Int32) * x2) + x6) - (1 : Int32))).toNatClampNeg) - (1 : Int32)))) fun M58 => dr ((mR M58 x0 16)) fun a61 => ck (mT M58 a61 = 20) <| ck (inb x6 (mL M58 a61)) <| ck (inb x6 (mL M58 a61)) <| lw (wI M58 a61 x6.toNatClampNeg (((mI M58 a61 x6.toNatClampNeg) + (1 : Int32)))) fun M65 => some (.inl (M65, (x3 + (1 : Int32)), (x4 + x6), s0)))
noncomputable def bb_X12_fishFor_50 (M : gMem) (x0 : Nat) (x1 : Int32) (x2 : Int32) (x3 : Int32) (x4 : Int32) (x5 : Int32) (x6 : Int32) : Option ((gMem × Int32 × Int32 × Int32) ⊕ ((gMem × Int32 × Int32 × Int32 × Int32) ⊕ (Unit × gMem))) :=
  (if x5 = 0 then oI (b_X12_fishFor_163 M x0 x1 x2 x3 x4 x5 x6) else ck (mT M x0 = 11) <| dr ((mR M x0 2)) fun a71 => ck (mT M a71 = 20) <| ck (inb ((((5 : Int32) * x2) + x6) - (1 : Int32)) (mL M a71)) <| (if (mI M a71 (((((5 : Int32) * x2) + x6) - (1 : Int32))).toNatClampNeg) ≤ 0 then oI (b_X12_fishFor_163 M x0 x1 x2 x3 x4 x5 x6) else dr ((mR M x0 18)) fun a75 => ck (mT M a75 = 13) <| dr ((mR M a75 11)) fun a77 => ck (mT M a77 = 12) <| dr ((mR M a77 7)) fun a79 => ck (mT M a79 = 20) <| ck (inb x1 (mL M a79)) <| (if (mI M a79 x1.toNatClampNeg) ≤ x3 then oI (b_X12_fishFor_163 M x0 x1 x2 x3 x4 x5 x6) else dr ((mR M a77 6)) fun a83 => ck (mT M a83 = 20) <| ck (inb x1 (mL M a83)) <| (if (mI M a83 x1.toNatClampNeg) < (x4 + x6) then b_X12_fishFor_112 M x0 x1 x2 x3 x4 x6 ((0 : Int32)) else b_X12_fishFor_112 M x0 x1 x2 x3 x4 x6 ((1 : Int32))))))
noncomputable def lp_X12_fishFor_50 (M : gMem) (x0 : Nat) (x1 : Int32) (x2 : Int32) (x3 : Int32) (x4 : Int32) (x5 : Int32) (x6 : Int32) : Option ((gMem × Int32 × Int32 × Int32 × Int32) ⊕ (Unit × gMem)) :=
  lp (fun (q : gMem × Int32 × Int32 × Int32) => bb_X12_fishFor_50 q.1 x0 x1 x2 q.2.1 q.2.2.1 q.2.2.2 x6) (M, x3, x4, x5)
noncomputable def bb_X12_fishFor_34 (M : gMem) (x0 : Nat) (x1 : Int32) (x2 : Int32) (x3 : Int32) (x4 : Int32) (x5 : Int32) (x6 : Int32) : Option ((gMem × Int32 × Int32 × Int32 × Int32) ⊕ (Unit × gMem)) :=
  ck (mT M x0 = 11) <| dr ((mR M x0 5)) fun a87 => ck (mT M a87 = 20) <| ck (inb x1 (mL M a87)) <| (if x6 < (mI M a87 x1.toNatClampNeg) then oI (b_X12_fishFor_169 M x0 x1 x2 x3 x4 x5) else (if x5 = 0 then oI (b_X12_fishFor_169 M x0 x1 x2 x3 x4 x5) else lp_X12_fishFor_50 M x0 x1 x2 x3 x4 x5 x6))
noncomputable def lp_X12_fishFor_34 (M : gMem) (x0 : Nat) (x1 : Int32) (x2 : Int32) (x3 : Int32) (x4 : Int32) (x5 : Int32) (x6 : Int32) : Option (Unit × gMem) :=
  lp (fun (q : gMem × Int32 × Int32 × Int32 × Int32) => bb_X12_fishFor_34 q.1 x0 x1 x2 q.2.1 q.2.2.1 q.2.2.2.1 q.2.2.2.2) (M, x3, x4, x5, x6)
noncomputable def bb_X12_fishFor_11 (M : gMem) (x0 : Nat) (x1 : Int32) (x2 : Int32) (x3 : Int32) (x4 : Int32) (x5 : Int32) (x6 : Int32) : Option ((gMem × Int32) ⊕ (Unit × gMem)) :=
  (if (5 : Int32) < x6 then oI (lp_X12_fishFor_34 M x0 x1 x2 x3 x4 x5 ((5 : Int32))) else ck (mT M x0 = 11) <| dr ((mR M x0 16)) fun a94 => ck (mT M a94 = 20) <| ck (inb x6 (mL M a94)) <| lw (wI M a94 x6.toNatClampNeg ((0 : Int32))) fun M97 => some (.inl (M97, (x6 + (1 : Int32)))))
noncomputable def lp_X12_fishFor_11 (M : gMem) (x0 : Nat) (x1 : Int32) (x2 : Int32) (x3 : Int32) (x4 : Int32) (x5 : Int32) (x6 : Int32) : Option (Unit × gMem) :=
  lp (fun (q : gMem × Int32) => bb_X12_fishFor_11 q.1 x0 x1 x2 x3 x4 x5 q.2) (M, x6)
noncomputable def b_X12_fishFor_0 (M : gMem) (x0 : Nat) (x1 : Int32) (x2 : Int32) : Option (Unit × gMem) :=
  lp_X12_fishFor_11 M x0 x1 x2 ((0 : Int32)) ((0 : Int32)) ((1 : Int32)) ((1 : Int32))
noncomputable def f_X12_fishFor (M : gMem) (x0 : Nat) (x1 : Int32) (x2 : Int32) : Option (Unit × gMem) :=
  b_X12_fishFor_0 M x0 x1 x2
set_option maxHeartbeats 4000000 in
set_option maxRecDepth 100000 in
theorem t_X12_fishFor_271 (X : gX p s m args meth c D cy B (gSt Z B H0) RX12 cX12_fishFor wsX12_fishFor 7) (hr : meth.sig.returnType = none) {Q : State → Prop} : ∀ (M : gMem) (x0 : Nat) (x1 : Int32) (x2 : Int32) (x3 : Int32) (x4 : Int32) (z : Unit × gMem), b_X12_fishFor_271 M x0 x1 x2 x3 x4 = some z → (fun (r : Unit × gMem) => Q = gMQ below D cy B H0 args s 0 0 none r.2) z → gGo p l e rX12_fishFor s m args below meth c D cy B H0 7 0 0 Q 271 [(0, vR (some x0)), (1, vI x1), (2, vI x2), (3, vI x3), (4, vI x4)] [] M := by
  intro M x0 x1 x2 x3 x4 z hf hK
  unfold b_X12_fishFor_271 at hf
  refine g_aload_n X dX12_fishFor_271 rfl rfl ?_
  obtain ⟨hT1, hf⟩ := ck_e hf
  refine g_get (ci := 10) (v := vR (mR M x0 7)) 7 X cdX12 i_X12_fishFor_X12 (by decide) k_X12_fishFor_f35 rfl dX12_fishFor_272 rfl hT1 rfl ?_
  refine g_iload_n X dX12_fishFor_275 rfl rfl ?_
  refine g_iload X dX12_fishFor_276 rfl ?_
  obtain ⟨a2, ha2, hf⟩ := dr_e hf
  obtain ⟨hT3, hf⟩ := ck_e hf
  obtain ⟨hg4, hf⟩ := ck_e hf
  refine g_iast X dX12_fishFor_278 ha2 hT3 hg4 ?_
  obtain ⟨M5, hM5, hf⟩ := lw_e hf
  rw [← hM5]
  have hT6 : mT M5 x0 = 11 := by rw [hM5]; exact hT1
  have hT7 : mT M5 a2 = 20 := by rw [hM5]; exact hT3
  refine g_aload_n X dX12_fishFor_279 rfl rfl ?_
  refine g_get (ci := 10) (v := vR (mR M5 x0 4)) 4 X cdX12 i_X12_fishFor_X12 (by decide) k_X12_fishFor_f26 rfl dX12_fishFor_280 rfl hT6 rfl ?_
  refine g_bipush (v := (8 : Int32)) X dX12_fishFor_283 (by decide) ?_
  refine g_iload_n X dX12_fishFor_285 rfl rfl ?_
  refine g_imul X dX12_fishFor_286 ?_
  refine g_iload_n X dX12_fishFor_287 rfl rfl ?_
  refine g_iadd X dX12_fishFor_288 ?_
  refine g_dup2 X dX12_fishFor_289 rfl rfl ?_
  obtain ⟨a8, ha8, hf⟩ := dr_e hf
  obtain ⟨hT9, hf⟩ := ck_e hf
  obtain ⟨hg10, hf⟩ := ck_e hf
  refine g_iald X dX12_fishFor_290 ha8 hT9 hg10 ?_
  refine g_iload_n X dX12_fishFor_291 rfl rfl ?_
  refine g_iadd X dX12_fishFor_292 ?_
  obtain ⟨hg11, hf⟩ := ck_e hf
  refine g_iast X dX12_fishFor_293 ha8 hT9 hg11 ?_
  obtain ⟨M12, hM12, hf⟩ := lw_e hf
  rw [← hM12]
  have hT13 : mT M12 x0 = 11 := by rw [hM12]; exact hT6
  have hT14 : mT M12 a2 = 20 := by rw [hM12]; exact hT7
  have hT15 : mT M12 a8 = 20 := by rw [hM12]; exact hT9
  cases hf
  refine g_eqQ hK ?_
  exact g_vret X hr dX12_fishFor_294
set_option maxHeartbeats 4000000 in
set_option maxRecDepth 100000 in
theorem tb_X12_fishFor_206 (X : gX p s m args meth c D cy B (gSt Z B H0) RX12 cX12_fishFor wsX12_fishFor 7) (hr : meth.sig.returnType = none) {Q : State → Prop} : ∀ (M : gMem) (x0 : Nat) (x1 : Int32) (x2 : Int32) (x3 : Int32) (x4 : Int32) (x6 : Int32) (z : (gMem × Int32 × Int32 × Int32) ⊕ (Unit × gMem)), bb_X12_fishFor_206 M x0 x1 x2 x3 x4 x6 = some z → (Sum.elim (fun (q : gMem × Int32 × Int32 × Int32) => gGo p l e rX12_fishFor s m args below meth c D cy B H0 7 0 0 Q 206 [(0, vR (some x0)), (1, vI x1), (2, vI x2), (3, vI q.2.1), (4, vI q.2.2.1), (6, vI q.2.2.2)] [] q.1) (fun (r : Unit × gMem) => Q = gMQ below D cy B H0 args s 0 0 none r.2)) z → gGo p l e rX12_fishFor s m args below meth c D cy B H0 7 0 0 Q 206 [(0, vR (some x0)), (1, vI x1), (2, vI x2), (3, vI x3), (4, vI x4), (6, vI x6)] [] M := by
  intro M x0 x1 x2 x3 x4 x6 z hf hK
  unfold bb_X12_fishFor_206 at hf
  refine g_iload X dX12_fishFor_206 rfl ?_
  refine g_aload_n X dX12_fishFor_208 rfl rfl ?_
  obtain ⟨hT16, hf⟩ := ck_e hf
  refine g_get (ci := 10) (v := vR (mR M x0 5)) 5 X cdX12 i_X12_fishFor_X12 (by decide) k_X12_fishFor_f29 rfl dX12_fishFor_209 rfl hT16 rfl ?_
  refine g_iload_n X dX12_fishFor_212 rfl rfl ?_
  obtain ⟨a17, ha17, hf⟩ := dr_e hf
  obtain ⟨hT18, hf⟩ := ck_e hf
  obtain ⟨hg19, hf⟩ := ck_e hf
  refine g_iald X dX12_fishFor_213 ha17 hT18 hg19 ?_
  refine g_icmp_ge (tgt := 271) X dX12_fishFor_214 (by decide) (fun hc => ?_) (fun hc => ?_)
  · have hf := ife_t hc hf
    obtain ⟨w20, hw20, hz20⟩ := oI_e hf
    subst hz20
    have hf := hw20
    refine g_sub (lvsub_of _ _ [0, 1, 2, 3, 4] rfl) ?_
    exact t_X12_fishFor_271 X hr _ _ _ _ _ _ _ hf hK
  · have hf := ife_f hc hf
    refine g_aload_n X dX12_fishFor_217 rfl rfl ?_
    refine g_get (ci := 10) (v := vR (mR M x0 2)) 2 X cdX12 i_X12_fishFor_X12 (by decide) k_X12_fishFor_f19 rfl dX12_fishFor_218 rfl hT16 rfl ?_
    refine g_iconst (v := (5 : Int32)) X dX12_fishFor_221 (by decide) ?_
    refine g_iload_n X dX12_fishFor_222 rfl rfl ?_
    refine g_imul X dX12_fishFor_223 ?_
    refine g_iload X dX12_fishFor_224 rfl ?_
    refine g_iadd X dX12_fishFor_226 ?_
    refine g_iconst (v := (1 : Int32)) X dX12_fishFor_227 (by decide) ?_
    refine g_isub X dX12_fishFor_228 ?_
    refine g_dup2 X dX12_fishFor_229 rfl rfl ?_
    obtain ⟨a21, ha21, hf⟩ := dr_e hf
    obtain ⟨hT22, hf⟩ := ck_e hf
    obtain ⟨hg23, hf⟩ := ck_e hf
    refine g_iald X dX12_fishFor_230 ha21 hT22 hg23 ?_
    refine g_aload_n X dX12_fishFor_231 rfl rfl ?_
    refine g_get (ci := 10) (v := vR (mR M x0 16)) 16 X cdX12 i_X12_fishFor_X12 (by decide) k_X12_fishFor_f62 rfl dX12_fishFor_232 rfl hT16 rfl ?_
    refine g_iload X dX12_fishFor_235 rfl ?_
    obtain ⟨a24, ha24, hf⟩ := dr_e hf
    obtain ⟨hT25, hf⟩ := ck_e hf
    obtain ⟨hg26, hf⟩ := ck_e hf
    refine g_iald X dX12_fishFor_237 ha24 hT25 hg26 ?_
    refine g_iadd X dX12_fishFor_238 ?_
    obtain ⟨hg27, hf⟩ := ck_e hf
    refine g_iast X dX12_fishFor_239 ha21 hT22 hg27 ?_
    obtain ⟨M28, hM28, hf⟩ := lw_e hf
    rw [← hM28]
    have hT29 : mT M28 x0 = 11 := by rw [hM28]; exact hT16
    have hT30 : mT M28 a17 = 20 := by rw [hM28]; exact hT18
    have hT31 : mT M28 a21 = 20 := by rw [hM28]; exact hT22
    have hT32 : mT M28 a24 = 20 := by rw [hM28]; exact hT25
    refine g_iload_n X dX12_fishFor_240 rfl rfl ?_
    refine g_aload_n X dX12_fishFor_241 rfl rfl ?_
    refine g_get (ci := 10) (v := vR (mR M28 x0 16)) 16 X cdX12 i_X12_fishFor_X12 (by decide) k_X12_fishFor_f62 rfl dX12_fishFor_242 rfl hT29 rfl ?_
    refine g_iload X dX12_fishFor_245 rfl ?_
    obtain ⟨a33, ha33, hf⟩ := dr_e hf
    obtain ⟨hT34, hf⟩ := ck_e hf
    obtain ⟨hg35, hf⟩ := ck_e hf
    refine g_iald X dX12_fishFor_247 ha33 hT34 hg35 ?_
    refine g_isub X dX12_fishFor_248 ?_
    refine g_istore_n (lv' := [(3, vI (x3 - (mI M28 a33 x6.toNatClampNeg))), (0, vR (some x0)), (1, vI x1), (2, vI x2), (4, vI x4), (6, vI x6)]) X dX12_fishFor_249 rfl (by decide) rfl ?_
    refine g_iload X dX12_fishFor_250 rfl ?_
    refine g_iload X dX12_fishFor_252 rfl ?_
    refine g_aload_n X dX12_fishFor_254 rfl rfl ?_
    refine g_get (ci := 10) (v := vR (mR M28 x0 16)) 16 X cdX12 i_X12_fishFor_X12 (by decide) k_X12_fishFor_f62 rfl dX12_fishFor_255 rfl hT29 rfl ?_
    refine g_iload X dX12_fishFor_258 rfl ?_
    obtain ⟨hg36, hf⟩ := ck_e hf
    refine g_iald X dX12_fishFor_260 ha33 hT34 hg36 ?_
    refine g_imul X dX12_fishFor_261 ?_
    refine g_isub X dX12_fishFor_262 ?_
    refine g_istore (lv' := [(4, vI (x4 - (x6 * (mI M28 a33 x6.toNatClampNeg)))), (3, vI (x3 - (mI M28 a33 x6.toNatClampNeg))), (0, vR (some x0)), (1, vI x1), (2, vI x2), (6, vI x6)]) X dX12_fishFor_263 (by decide) rfl ?_
    refine g_iinc (v := (1 : Int32)) (lv' := [(6, vI (x6 + (1 : Int32))), (4, vI (x4 - (x6 * (mI M28 a33 x6.toNatClampNeg)))), (3, vI (x3 - (mI M28 a33 x6.toNatClampNeg))), (0, vR (some x0)), (1, vI x1), (2, vI x2)]) X dX12_fishFor_265 rfl (by decide) (by decide) rfl ?_
    refine g_goto (tgt := 206) X dX12_fishFor_268 (by decide) ?_
    cases hf
    refine g_sub (lvsub_of _ _ [3, 4, 5, 2, 1, 0] rfl) ?_
    exact hK
set_option maxHeartbeats 4000000 in
set_option maxRecDepth 100000 in
theorem tl_X12_fishFor_206 (X : gX p s m args meth c D cy B (gSt Z B H0) RX12 cX12_fishFor wsX12_fishFor 7) (hr : meth.sig.returnType = none) {Q : State → Prop} : ∀ (M : gMem) (x0 : Nat) (x1 : Int32) (x2 : Int32) (x3 : Int32) (x4 : Int32) (x6 : Int32) (z : Unit × gMem), lp_X12_fishFor_206 M x0 x1 x2 x3 x4 x6 = some z → (fun (r : Unit × gMem) => Q = gMQ below D cy B H0 args s 0 0 none r.2) z → gGo p l e rX12_fishFor s m args below meth c D cy B H0 7 0 0 Q 206 [(0, vR (some x0)), (1, vI x1), (2, vI x2), (3, vI x3), (4, vI x4), (6, vI x6)] [] M := by
  intro M x0 x1 x2 x3 x4 x6 z hf hK
  refine lp_ind (P := (fun (q : gMem × Int32 × Int32 × Int32) (z : Unit × gMem) => (fun (r : Unit × gMem) => Q = gMQ below D cy B H0 args s 0 0 none r.2) z → gGo p l e rX12_fishFor s m args below meth c D cy B H0 7 0 0 Q 206 [(0, vR (some x0)), (1, vI x1), (2, vI x2), (3, vI q.2.1), (4, vI q.2.2.1), (6, vI q.2.2.2)] [] q.1)) (fun q z hq => ?_) _ _ hf hK
  intro hK
  obtain ⟨w, hw, hm⟩ := hq
  refine tb_X12_fishFor_206 X hr _ _ _ _ _ _ _ w hw ?_
  cases w with
  | inl a => exact hm hK
  | inr b => cases hm; exact hK
set_option maxHeartbeats 4000000 in
set_option maxRecDepth 100000 in
theorem t_X12_fishFor_169 (X : gX p s m args meth c D cy B (gSt Z B H0) RX12 cX12_fishFor wsX12_fishFor 7) (hr : meth.sig.returnType = none) {Q : State → Prop} : ∀ (M : gMem) (x0 : Nat) (x1 : Int32) (x2 : Int32) (x3 : Int32) (x4 : Int32) (x5 : Int32) (z : Unit × gMem), b_X12_fishFor_169 M x0 x1 x2 x3 x4 x5 = some z → (fun (r : Unit × gMem) => Q = gMQ below D cy B H0 args s 0 0 none r.2) z → gGo p l e rX12_fishFor s m args below meth c D cy B H0 7 0 0 Q 169 [(0, vR (some x0)), (1, vI x1), (2, vI x2), (3, vI x3), (4, vI x4), (5, vI x5)] [] M := by
  intro M x0 x1 x2 x3 x4 x5 z hf hK
  unfold b_X12_fishFor_169 at hf
  refine g_iload X dX12_fishFor_169 rfl ?_
  refine g_if_ne (tgt := 271) X dX12_fishFor_171 (by decide) (fun hc => ?_) (fun hc => ?_)
  · have hf := ife_f hc hf
    refine g_sub (lvsub_of _ _ [0, 1, 2, 3, 4] rfl) ?_
    exact t_X12_fishFor_271 X hr _ _ _ _ _ _ _ hf hK
  · have hf := ife_t hc hf
    refine g_aload_n X dX12_fishFor_174 rfl rfl ?_
    obtain ⟨hT37, hf⟩ := ck_e hf
    refine g_get (ci := 10) (v := vR (mR M x0 5)) 5 X cdX12 i_X12_fishFor_X12 (by decide) k_X12_fishFor_f29 rfl dX12_fishFor_175 rfl hT37 rfl ?_
    refine g_iload_n X dX12_fishFor_178 rfl rfl ?_
    refine g_bipush (v := (6 : Int32)) X dX12_fishFor_179 (by decide) ?_
    refine g_aload_n X dX12_fishFor_181 rfl rfl ?_
    refine g_get (ci := 10) (v := vR (mR M x0 5)) 5 X cdX12 i_X12_fishFor_X12 (by decide) k_X12_fishFor_f29 rfl dX12_fishFor_182 rfl hT37 rfl ?_
    refine g_iload_n X dX12_fishFor_185 rfl rfl ?_
    obtain ⟨a38, ha38, hf⟩ := dr_e hf
    obtain ⟨hT39, hf⟩ := ck_e hf
    obtain ⟨hg40, hf⟩ := ck_e hf
    refine g_iald X dX12_fishFor_186 ha38 hT39 hg40 ?_
    refine g_iconst (v := (1 : Int32)) X dX12_fishFor_187 (by decide) ?_
    refine g_iadd X dX12_fishFor_188 ?_
    refine g_min X k_X12_fishFor_m96 k_X12_fishFor_mmins k_X12_fishFor_mi k_X12_fishFor_mminc (Nat.le_of_ble_eq_true rfl) (Nat.le_of_ble_eq_true rfl) ⟨by decide, by decide⟩ dX12_fishFor_189 ?_
    obtain ⟨hg41, hf⟩ := ck_e hf
    refine g_iast X dX12_fishFor_192 ha38 hT39 hg41 ?_
    obtain ⟨M42, hM42, hf⟩ := lw_e hf
    rw [← hM42]
    have hT43 : mT M42 x0 = 11 := by rw [hM42]; exact hT37
    have hT44 : mT M42 a38 = 20 := by rw [hM42]; exact hT39
    refine g_aload_n X dX12_fishFor_193 rfl rfl ?_
    refine g_get (ci := 10) (v := vR (mR M42 x0 9)) 9 X cdX12 i_X12_fishFor_X12 (by decide) k_X12_fishFor_f41 rfl dX12_fishFor_194 rfl hT43 rfl ?_
    refine g_iload_n X dX12_fishFor_197 rfl rfl ?_
    refine g_dup2 X dX12_fishFor_198 rfl rfl ?_
    obtain ⟨a45, ha45, hf⟩ := dr_e hf
    obtain ⟨hT46, hf⟩ := ck_e hf
    obtain ⟨hg47, hf⟩ := ck_e hf
    refine g_iald X dX12_fishFor_199 ha45 hT46 hg47 ?_
    refine g_iconst (v := (1 : Int32)) X dX12_fishFor_200 (by decide) ?_
    refine g_iadd X dX12_fishFor_201 ?_
    obtain ⟨hg48, hf⟩ := ck_e hf
    refine g_iast X dX12_fishFor_202 ha45 hT46 hg48 ?_
    obtain ⟨M49, hM49, hf⟩ := lw_e hf
    rw [← hM49]
    have hT50 : mT M49 x0 = 11 := by rw [hM49]; exact hT43
    have hT51 : mT M49 a38 = 20 := by rw [hM49]; exact hT44
    have hT52 : mT M49 a45 = 20 := by rw [hM49]; exact hT46
    refine g_iconst (v := (1 : Int32)) X dX12_fishFor_203 (by decide) ?_
    refine g_istore (lv' := [(6, vI (1 : Int32)), (0, vR (some x0)), (1, vI x1), (2, vI x2), (3, vI x3), (4, vI x4), (5, vI x5)]) X dX12_fishFor_204 (by decide) rfl ?_
    refine g_sub (lvsub_of _ _ [1, 2, 3, 4, 5, 0] rfl) ?_
    exact tl_X12_fishFor_206 X hr _ _ _ _ _ _ _ _ hf hK
set_option maxHeartbeats 4000000 in
set_option maxRecDepth 100000 in
theorem t_X12_fishFor_163 (X : gX p s m args meth c D cy B (gSt Z B H0) RX12 cX12_fishFor wsX12_fishFor 7) (hr : meth.sig.returnType = none) {Q : State → Prop} : ∀ (M : gMem) (x0 : Nat) (x1 : Int32) (x2 : Int32) (x3 : Int32) (x4 : Int32) (x5 : Int32) (x6 : Int32) (z : (gMem × Int32 × Int32 × Int32 × Int32) ⊕ (Unit × gMem)), b_X12_fishFor_163 M x0 x1 x2 x3 x4 x5 x6 = some z → (Sum.elim (fun (q : gMem × Int32 × Int32 × Int32 × Int32) => gGo p l e rX12_fishFor s m args below meth c D cy B H0 7 0 0 Q 34 [(0, vR (some x0)), (1, vI x1), (2, vI x2), (3, vI q.2.1), (4, vI q.2.2.1), (5, vI q.2.2.2.1), (6, vI q.2.2.2.2)] [] q.1) (fun (r : Unit × gMem) => Q = gMQ below D cy B H0 args s 0 0 none r.2)) z → gGo p l e rX12_fishFor s m args below meth c D cy B H0 7 0 0 Q 163 [(0, vR (some x0)), (1, vI x1), (2, vI x2), (3, vI x3), (4, vI x4), (5, vI x5), (6, vI x6)] [] M := by
  intro M x0 x1 x2 x3 x4 x5 x6 z hf hK
  unfold b_X12_fishFor_163 at hf
  refine g_iinc (v := (-1 : Int32)) (lv' := [(6, vI (x6 + (-1 : Int32))), (0, vR (some x0)), (1, vI x1), (2, vI x2), (3, vI x3), (4, vI x4), (5, vI x5)]) X dX12_fishFor_163 rfl (by decide) (by decide) rfl ?_
  refine g_goto (tgt := 34) X dX12_fishFor_166 (by decide) ?_
  cases hf
  refine g_sub (lvsub_of _ _ [1, 2, 3, 4, 5, 6, 0] rfl) ?_
  exact hK
set_option maxHeartbeats 4000000 in
set_option maxRecDepth 100000 in
theorem t_X12_fishFor_112 (X : gX p s m args meth c D cy B (gSt Z B H0) RX12 cX12_fishFor wsX12_fishFor 7) (hr : meth.sig.returnType = none) {Q : State → Prop} : ∀ (M : gMem) (x0 : Nat) (x1 : Int32) (x2 : Int32) (x3 : Int32) (x4 : Int32) (x6 : Int32) (s0 : Int32) (z : (gMem × Int32 × Int32 × Int32) ⊕ ((gMem × Int32 × Int32 × Int32 × Int32) ⊕ (Unit × gMem))), b_X12_fishFor_112 M x0 x1 x2 x3 x4 x6 s0 = some z → (Sum.elim (fun (q : gMem × Int32 × Int32 × Int32) => gGo p l e rX12_fishFor s m args below meth c D cy B H0 7 0 0 Q 50 [(0, vR (some x0)), (1, vI x1), (2, vI x2), (3, vI q.2.1), (4, vI q.2.2.1), (5, vI q.2.2.2), (6, vI x6)] [] q.1) (Sum.elim (fun (q : gMem × Int32 × Int32 × Int32 × Int32) => gGo p l e rX12_fishFor s m args below meth c D cy B H0 7 0 0 Q 34 [(0, vR (some x0)), (1, vI x1), (2, vI x2), (3, vI q.2.1), (4, vI q.2.2.1), (5, vI q.2.2.2.1), (6, vI q.2.2.2.2)] [] q.1) (fun (r : Unit × gMem) => Q = gMQ below D cy B H0 args s 0 0 none r.2))) z → gGo p l e rX12_fishFor s m args below meth c D cy B H0 7 0 0 Q 112 [(0, vR (some x0)), (1, vI x1), (2, vI x2), (3, vI x3), (4, vI x4), (6, vI x6)] [vI s0] M := by
  intro M x0 x1 x2 x3 x4 x6 s0 z hf hK
  unfold b_X12_fishFor_112 at hf
  refine g_istore (lv' := [(5, vI s0), (0, vR (some x0)), (1, vI x1), (2, vI x2), (3, vI x3), (4, vI x4), (6, vI x6)]) X dX12_fishFor_112 (by decide) rfl ?_
  refine g_iload X dX12_fishFor_114 rfl ?_
  refine g_if_ne (tgt := 122) X dX12_fishFor_116 (by decide) (fun hc => ?_) (fun hc => ?_)
  · have hf := ife_f hc hf
    refine g_aload_n X dX12_fishFor_122 rfl rfl ?_
    obtain ⟨hT53, hf⟩ := ck_e hf
    refine g_get (ci := 10) (v := vR (mR M x0 2)) 2 X cdX12 i_X12_fishFor_X12 (by decide) k_X12_fishFor_f19 rfl dX12_fishFor_123 rfl hT53 rfl ?_
    refine g_iconst (v := (5 : Int32)) X dX12_fishFor_126 (by decide) ?_
    refine g_iload_n X dX12_fishFor_127 rfl rfl ?_
    refine g_imul X dX12_fishFor_128 ?_
    refine g_iload X dX12_fishFor_129 rfl ?_
    refine g_iadd X dX12_fishFor_131 ?_
    refine g_iconst (v := (1 : Int32)) X dX12_fishFor_132 (by decide) ?_
    refine g_isub X dX12_fishFor_133 ?_
    refine g_dup2 X dX12_fishFor_134 rfl rfl ?_
    obtain ⟨a54, ha54, hf⟩ := dr_e hf
    obtain ⟨hT55, hf⟩ := ck_e hf
    obtain ⟨hg56, hf⟩ := ck_e hf
    refine g_iald X dX12_fishFor_135 ha54 hT55 hg56 ?_
    refine g_iconst (v := (1 : Int32)) X dX12_fishFor_136 (by decide) ?_
    refine g_isub X dX12_fishFor_137 ?_
    obtain ⟨hg57, hf⟩ := ck_e hf
    refine g_iast X dX12_fishFor_138 ha54 hT55 hg57 ?_
    obtain ⟨M58, hM58, hf⟩ := lw_e hf
    rw [← hM58]
    have hT59 : mT M58 x0 = 11 := by rw [hM58]; exact hT53
    have hT60 : mT M58 a54 = 20 := by rw [hM58]; exact hT55
    refine g_aload_n X dX12_fishFor_139 rfl rfl ?_
    refine g_get (ci := 10) (v := vR (mR M58 x0 16)) 16 X cdX12 i_X12_fishFor_X12 (by decide) k_X12_fishFor_f62 rfl dX12_fishFor_140 rfl hT59 rfl ?_
    refine g_iload X dX12_fishFor_143 rfl ?_
    refine g_dup2 X dX12_fishFor_145 rfl rfl ?_
    obtain ⟨a61, ha61, hf⟩ := dr_e hf
    obtain ⟨hT62, hf⟩ := ck_e hf
    obtain ⟨hg63, hf⟩ := ck_e hf
    refine g_iald X dX12_fishFor_146 ha61 hT62 hg63 ?_
    refine g_iconst (v := (1 : Int32)) X dX12_fishFor_147 (by decide) ?_
    refine g_iadd X dX12_fishFor_148 ?_
    obtain ⟨hg64, hf⟩ := ck_e hf
    refine g_iast X dX12_fishFor_149 ha61 hT62 hg64 ?_
    obtain ⟨M65, hM65, hf⟩ := lw_e hf
    rw [← hM65]
    have hT66 : mT M65 x0 = 11 := by rw [hM65]; exact hT59
    have hT67 : mT M65 a54 = 20 := by rw [hM65]; exact hT60
    have hT68 : mT M65 a61 = 20 := by rw [hM65]; exact hT62
    refine g_iinc (v := (1 : Int32)) (lv' := [(3, vI (x3 + (1 : Int32))), (5, vI s0), (0, vR (some x0)), (1, vI x1), (2, vI x2), (4, vI x4), (6, vI x6)]) X dX12_fishFor_150 rfl (by decide) (by decide) rfl ?_
    refine g_iload X dX12_fishFor_153 rfl ?_
    refine g_iload X dX12_fishFor_155 rfl ?_
    refine g_iadd X dX12_fishFor_157 ?_
    refine g_istore (lv' := [(4, vI (x4 + x6)), (3, vI (x3 + (1 : Int32))), (5, vI s0), (0, vR (some x0)), (1, vI x1), (2, vI x2), (6, vI x6)]) X dX12_fishFor_158 (by decide) rfl ?_
    refine g_goto (tgt := 50) X dX12_fishFor_160 (by decide) ?_
    cases hf
    refine g_sub (lvsub_of _ _ [3, 4, 5, 1, 0, 2, 6] rfl) ?_
    exact hK
  · have hf := ife_t hc hf
    refine g_goto (tgt := 50) X dX12_fishFor_119 (by decide) ?_
    cases hf
    refine g_sub (lvsub_of _ _ [1, 2, 3, 4, 5, 0, 6] rfl) ?_
    exact hK
set_option maxHeartbeats 4000000 in
set_option maxRecDepth 100000 in
theorem tb_X12_fishFor_50 (X : gX p s m args meth c D cy B (gSt Z B H0) RX12 cX12_fishFor wsX12_fishFor 7) (hr : meth.sig.returnType = none) {Q : State → Prop} : ∀ (M : gMem) (x0 : Nat) (x1 : Int32) (x2 : Int32) (x3 : Int32) (x4 : Int32) (x5 : Int32) (x6 : Int32) (z : (gMem × Int32 × Int32 × Int32) ⊕ ((gMem × Int32 × Int32 × Int32 × Int32) ⊕ (Unit × gMem))), bb_X12_fishFor_50 M x0 x1 x2 x3 x4 x5 x6 = some z → (Sum.elim (fun (q : gMem × Int32 × Int32 × Int32) => gGo p l e rX12_fishFor s m args below meth c D cy B H0 7 0 0 Q 50 [(0, vR (some x0)), (1, vI x1), (2, vI x2), (3, vI q.2.1), (4, vI q.2.2.1), (5, vI q.2.2.2), (6, vI x6)] [] q.1) (Sum.elim (fun (q : gMem × Int32 × Int32 × Int32 × Int32) => gGo p l e rX12_fishFor s m args below meth c D cy B H0 7 0 0 Q 34 [(0, vR (some x0)), (1, vI x1), (2, vI x2), (3, vI q.2.1), (4, vI q.2.2.1), (5, vI q.2.2.2.1), (6, vI q.2.2.2.2)] [] q.1) (fun (r : Unit × gMem) => Q = gMQ below D cy B H0 args s 0 0 none r.2))) z → gGo p l e rX12_fishFor s m args below meth c D cy B H0 7 0 0 Q 50 [(0, vR (some x0)), (1, vI x1), (2, vI x2), (3, vI x3), (4, vI x4), (5, vI x5), (6, vI x6)] [] M := by
  intro M x0 x1 x2 x3 x4 x5 x6 z hf hK
  unfold bb_X12_fishFor_50 at hf
  refine g_iload X dX12_fishFor_50 rfl ?_
  refine g_if_eq (tgt := 163) X dX12_fishFor_52 (by decide) (fun hc => ?_) (fun hc => ?_)
  · have hf := ife_t hc hf
    obtain ⟨w69, hw69, hz69⟩ := oI_e hf
    subst hz69
    have hf := hw69
    refine g_sub (lvsub_of _ _ [0, 1, 2, 3, 4, 5, 6] rfl) ?_
    exact t_X12_fishFor_163 X hr _ _ _ _ _ _ _ _ _ hf hK
  · have hf := ife_f hc hf
    refine g_aload_n X dX12_fishFor_55 rfl rfl ?_
    obtain ⟨hT70, hf⟩ := ck_e hf
    refine g_get (ci := 10) (v := vR (mR M x0 2)) 2 X cdX12 i_X12_fishFor_X12 (by decide) k_X12_fishFor_f19 rfl dX12_fishFor_56 rfl hT70 rfl ?_
    refine g_iconst (v := (5 : Int32)) X dX12_fishFor_59 (by decide) ?_
    refine g_iload_n X dX12_fishFor_60 rfl rfl ?_
    refine g_imul X dX12_fishFor_61 ?_
    refine g_iload X dX12_fishFor_62 rfl ?_
    refine g_iadd X dX12_fishFor_64 ?_
    refine g_iconst (v := (1 : Int32)) X dX12_fishFor_65 (by decide) ?_
    refine g_isub X dX12_fishFor_66 ?_
    obtain ⟨a71, ha71, hf⟩ := dr_e hf
    obtain ⟨hT72, hf⟩ := ck_e hf
    obtain ⟨hg73, hf⟩ := ck_e hf
    refine g_iald X dX12_fishFor_67 ha71 hT72 hg73 ?_
    refine g_if_le (tgt := 163) X dX12_fishFor_68 (by decide) (fun hc => ?_) (fun hc => ?_)
    · have hf := ife_t hc hf
      obtain ⟨w74, hw74, hz74⟩ := oI_e hf
      subst hz74
      have hf := hw74
      refine g_sub (lvsub_of _ _ [0, 1, 2, 3, 4, 5, 6] rfl) ?_
      exact t_X12_fishFor_163 X hr _ _ _ _ _ _ _ _ _ hf hK
    · have hf := ife_f hc hf
      refine g_iload_n X dX12_fishFor_71 rfl rfl ?_
      refine g_aload_n X dX12_fishFor_72 rfl rfl ?_
      refine g_get (ci := 10) (v := vR (mR M x0 18)) 18 X cdX12 i_X12_fishFor_X12 (by decide) k_X12_fishFor_f3 rfl dX12_fishFor_73 rfl hT70 rfl ?_
      obtain ⟨a75, ha75, hf⟩ := dr_e hf
      obtain ⟨hT76, hf⟩ := ck_e hf
      refine g_getN (ci := 12) (w := vR (mR M a75 11)) 11 X cdX14 i_X12_fishFor_X14 (by decide) (gNw X _ kn_X12_81) rfl dX12_fishFor_76 ha75 hT76 rfl ?_
      obtain ⟨a77, ha77, hf⟩ := dr_e hf
      obtain ⟨hT78, hf⟩ := ck_e hf
      refine g_getN (ci := 11) (w := vR (mR M a77 7)) 7 X cdX13 i_X12_fishFor_X13 (by decide) (gNw X _ kn_X12_176) rfl dX12_fishFor_79 ha77 hT78 rfl ?_
      refine g_iload_n X dX12_fishFor_82 rfl rfl ?_
      obtain ⟨a79, ha79, hf⟩ := dr_e hf
      obtain ⟨hT80, hf⟩ := ck_e hf
      obtain ⟨hg81, hf⟩ := ck_e hf
      refine g_iald X dX12_fishFor_83 ha79 hT80 hg81 ?_
      refine g_icmp_ge (tgt := 163) X dX12_fishFor_84 (by decide) (fun hc => ?_) (fun hc => ?_)
      · have hf := ife_t hc hf
        obtain ⟨w82, hw82, hz82⟩ := oI_e hf
        subst hz82
        have hf := hw82
        refine g_sub (lvsub_of _ _ [0, 1, 2, 3, 4, 5, 6] rfl) ?_
        exact t_X12_fishFor_163 X hr _ _ _ _ _ _ _ _ _ hf hK
      · have hf := ife_f hc hf
        refine g_iload X dX12_fishFor_87 rfl ?_
        refine g_iload X dX12_fishFor_89 rfl ?_
        refine g_iadd X dX12_fishFor_91 ?_
        refine g_aload_n X dX12_fishFor_92 rfl rfl ?_
        refine g_get (ci := 10) (v := vR (mR M x0 18)) 18 X cdX12 i_X12_fishFor_X12 (by decide) k_X12_fishFor_f3 rfl dX12_fishFor_93 rfl hT70 rfl ?_
        refine g_getN (ci := 12) (w := vR (mR M a75 11)) 11 X cdX14 i_X12_fishFor_X14 (by decide) (gNw X _ kn_X12_81) rfl dX12_fishFor_96 ha75 hT76 rfl ?_
        refine g_getN (ci := 11) (w := vR (mR M a77 6)) 6 X cdX13 i_X12_fishFor_X13 (by decide) (gNw X _ kn_X12_179) rfl dX12_fishFor_99 ha77 hT78 rfl ?_
        refine g_iload_n X dX12_fishFor_102 rfl rfl ?_
        obtain ⟨a83, ha83, hf⟩ := dr_e hf
        obtain ⟨hT84, hf⟩ := ck_e hf
        obtain ⟨hg85, hf⟩ := ck_e hf
        refine g_iald X dX12_fishFor_103 ha83 hT84 hg85 ?_
        refine g_icmp_gt (tgt := 111) X dX12_fishFor_104 (by decide) (fun hc => ?_) (fun hc => ?_)
        · have hf := ife_t hc hf
          refine g_iconst (v := (0 : Int32)) X dX12_fishFor_111 (by decide) ?_
          refine g_sub (lvsub_of _ _ [0, 1, 2, 3, 4, 6] rfl) ?_
          exact t_X12_fishFor_112 X hr _ _ _ _ _ _ _ _ _ hf hK
        · have hf := ife_f hc hf
          refine g_iconst (v := (1 : Int32)) X dX12_fishFor_107 (by decide) ?_
          refine g_goto (tgt := 112) X dX12_fishFor_108 (by decide) ?_
          refine g_sub (lvsub_of _ _ [0, 1, 2, 3, 4, 6] rfl) ?_
          exact t_X12_fishFor_112 X hr _ _ _ _ _ _ _ _ _ hf hK
set_option maxHeartbeats 4000000 in
set_option maxRecDepth 100000 in
theorem tl_X12_fishFor_50 (X : gX p s m args meth c D cy B (gSt Z B H0) RX12 cX12_fishFor wsX12_fishFor 7) (hr : meth.sig.returnType = none) {Q : State → Prop} : ∀ (M : gMem) (x0 : Nat) (x1 : Int32) (x2 : Int32) (x3 : Int32) (x4 : Int32) (x5 : Int32) (x6 : Int32) (z : (gMem × Int32 × Int32 × Int32 × Int32) ⊕ (Unit × gMem)), lp_X12_fishFor_50 M x0 x1 x2 x3 x4 x5 x6 = some z → (Sum.elim (fun (q : gMem × Int32 × Int32 × Int32 × Int32) => gGo p l e rX12_fishFor s m args below meth c D cy B H0 7 0 0 Q 34 [(0, vR (some x0)), (1, vI x1), (2, vI x2), (3, vI q.2.1), (4, vI q.2.2.1), (5, vI q.2.2.2.1), (6, vI q.2.2.2.2)] [] q.1) (fun (r : Unit × gMem) => Q = gMQ below D cy B H0 args s 0 0 none r.2)) z → gGo p l e rX12_fishFor s m args below meth c D cy B H0 7 0 0 Q 50 [(0, vR (some x0)), (1, vI x1), (2, vI x2), (3, vI x3), (4, vI x4), (5, vI x5), (6, vI x6)] [] M := by
  intro M x0 x1 x2 x3 x4 x5 x6 z hf hK
  refine lp_ind (P := (fun (q : gMem × Int32 × Int32 × Int32) (z : (gMem × Int32 × Int32 × Int32 × Int32) ⊕ (Unit × gMem)) => (Sum.elim (fun (q : gMem × Int32 × Int32 × Int32 × Int32) => gGo p l e rX12_fishFor s m args below meth c D cy B H0 7 0 0 Q 34 [(0, vR (some x0)), (1, vI x1), (2, vI x2), (3, vI q.2.1), (4, vI q.2.2.1), (5, vI q.2.2.2.1), (6, vI q.2.2.2.2)] [] q.1) (fun (r : Unit × gMem) => Q = gMQ below D cy B H0 args s 0 0 none r.2)) z → gGo p l e rX12_fishFor s m args below meth c D cy B H0 7 0 0 Q 50 [(0, vR (some x0)), (1, vI x1), (2, vI x2), (3, vI q.2.1), (4, vI q.2.2.1), (5, vI q.2.2.2), (6, vI x6)] [] q.1)) (fun q z hq => ?_) _ _ hf hK
  intro hK
  obtain ⟨w, hw, hm⟩ := hq
  refine tb_X12_fishFor_50 X hr _ _ _ _ _ _ _ _ w hw ?_
  cases w with
  | inl a => exact hm hK
  | inr b => cases hm; exact hK
set_option maxHeartbeats 4000000 in
set_option maxRecDepth 100000 in
theorem tb_X12_fishFor_34 (X : gX p s m args meth c D cy B (gSt Z B H0) RX12 cX12_fishFor wsX12_fishFor 7) (hr : meth.sig.returnType = none) {Q : State → Prop} : ∀ (M : gMem) (x0 : Nat) (x1 : Int32) (x2 : Int32) (x3 : Int32) (x4 : Int32) (x5 : Int32) (x6 : Int32) (z : (gMem × Int32 × Int32 × Int32 × Int32) ⊕ (Unit × gMem)), bb_X12_fishFor_34 M x0 x1 x2 x3 x4 x5 x6 = some z → (Sum.elim (fun (q : gMem × Int32 × Int32 × Int32 × Int32) => gGo p l e rX12_fishFor s m args below meth c D cy B H0 7 0 0 Q 34 [(0, vR (some x0)), (1, vI x1), (2, vI x2), (3, vI q.2.1), (4, vI q.2.2.1), (5, vI q.2.2.2.1), (6, vI q.2.2.2.2)] [] q.1) (fun (r : Unit × gMem) => Q = gMQ below D cy B H0 args s 0 0 none r.2)) z → gGo p l e rX12_fishFor s m args below meth c D cy B H0 7 0 0 Q 34 [(0, vR (some x0)), (1, vI x1), (2, vI x2), (3, vI x3), (4, vI x4), (5, vI x5), (6, vI x6)] [] M := by
  intro M x0 x1 x2 x3 x4 x5 x6 z hf hK
  unfold bb_X12_fishFor_34 at hf
  refine g_iload X dX12_fishFor_34 rfl ?_
  refine g_aload_n X dX12_fishFor_36 rfl rfl ?_
  obtain ⟨hT86, hf⟩ := ck_e hf
  refine g_get (ci := 10) (v := vR (mR M x0 5)) 5 X cdX12 i_X12_fishFor_X12 (by decide) k_X12_fishFor_f29 rfl dX12_fishFor_37 rfl hT86 rfl ?_
  refine g_iload_n X dX12_fishFor_40 rfl rfl ?_
  obtain ⟨a87, ha87, hf⟩ := dr_e hf
  obtain ⟨hT88, hf⟩ := ck_e hf
  obtain ⟨hg89, hf⟩ := ck_e hf
  refine g_iald X dX12_fishFor_41 ha87 hT88 hg89 ?_
  refine g_icmp_lt (tgt := 169) X dX12_fishFor_42 (by decide) (fun hc => ?_) (fun hc => ?_)
  · have hf := ife_t hc hf
    obtain ⟨w90, hw90, hz90⟩ := oI_e hf
    subst hz90
    have hf := hw90
    refine g_sub (lvsub_of _ _ [0, 1, 2, 3, 4, 5] rfl) ?_
    exact t_X12_fishFor_169 X hr _ _ _ _ _ _ _ _ hf hK
  · have hf := ife_f hc hf
    refine g_iload X dX12_fishFor_45 rfl ?_
    refine g_if_eq (tgt := 169) X dX12_fishFor_47 (by decide) (fun hc => ?_) (fun hc => ?_)
    · have hf := ife_t hc hf
      obtain ⟨w91, hw91, hz91⟩ := oI_e hf
      subst hz91
      have hf := hw91
      refine g_sub (lvsub_of _ _ [0, 1, 2, 3, 4, 5] rfl) ?_
      exact t_X12_fishFor_169 X hr _ _ _ _ _ _ _ _ hf hK
    · have hf := ife_f hc hf
      refine g_sub (lvsub_of _ _ [0, 1, 2, 3, 4, 5, 6] rfl) ?_
      exact tl_X12_fishFor_50 X hr _ _ _ _ _ _ _ _ _ hf hK
set_option maxHeartbeats 4000000 in
set_option maxRecDepth 100000 in
theorem tl_X12_fishFor_34 (X : gX p s m args meth c D cy B (gSt Z B H0) RX12 cX12_fishFor wsX12_fishFor 7) (hr : meth.sig.returnType = none) {Q : State → Prop} : ∀ (M : gMem) (x0 : Nat) (x1 : Int32) (x2 : Int32) (x3 : Int32) (x4 : Int32) (x5 : Int32) (x6 : Int32) (z : Unit × gMem), lp_X12_fishFor_34 M x0 x1 x2 x3 x4 x5 x6 = some z → (fun (r : Unit × gMem) => Q = gMQ below D cy B H0 args s 0 0 none r.2) z → gGo p l e rX12_fishFor s m args below meth c D cy B H0 7 0 0 Q 34 [(0, vR (some x0)), (1, vI x1), (2, vI x2), (3, vI x3), (4, vI x4), (5, vI x5), (6, vI x6)] [] M := by
  intro M x0 x1 x2 x3 x4 x5 x6 z hf hK
  refine lp_ind (P := (fun (q : gMem × Int32 × Int32 × Int32 × Int32) (z : Unit × gMem) => (fun (r : Unit × gMem) => Q = gMQ below D cy B H0 args s 0 0 none r.2) z → gGo p l e rX12_fishFor s m args below meth c D cy B H0 7 0 0 Q 34 [(0, vR (some x0)), (1, vI x1), (2, vI x2), (3, vI q.2.1), (4, vI q.2.2.1), (5, vI q.2.2.2.1), (6, vI q.2.2.2.2)] [] q.1)) (fun q z hq => ?_) _ _ hf hK
  intro hK
  obtain ⟨w, hw, hm⟩ := hq
  refine tb_X12_fishFor_34 X hr _ _ _ _ _ _ _ _ w hw ?_
  cases w with
  | inl a => exact hm hK
  | inr b => cases hm; exact hK
set_option maxHeartbeats 4000000 in
set_option maxRecDepth 100000 in
theorem tb_X12_fishFor_11 (X : gX p s m args meth c D cy B (gSt Z B H0) RX12 cX12_fishFor wsX12_fishFor 7) (hr : meth.sig.returnType = none) {Q : State → Prop} : ∀ (M : gMem) (x0 : Nat) (x1 : Int32) (x2 : Int32) (x3 : Int32) (x4 : Int32) (x5 : Int32) (x6 : Int32) (z : (gMem × Int32) ⊕ (Unit × gMem)), bb_X12_fishFor_11 M x0 x1 x2 x3 x4 x5 x6 = some z → (Sum.elim (fun (q : gMem × Int32) => gGo p l e rX12_fishFor s m args below meth c D cy B H0 7 0 0 Q 11 [(0, vR (some x0)), (1, vI x1), (2, vI x2), (3, vI x3), (4, vI x4), (5, vI x5), (6, vI q.2)] [] q.1) (fun (r : Unit × gMem) => Q = gMQ below D cy B H0 args s 0 0 none r.2)) z → gGo p l e rX12_fishFor s m args below meth c D cy B H0 7 0 0 Q 11 [(0, vR (some x0)), (1, vI x1), (2, vI x2), (3, vI x3), (4, vI x4), (5, vI x5), (6, vI x6)] [] M := by
  intro M x0 x1 x2 x3 x4 x5 x6 z hf hK
  unfold bb_X12_fishFor_11 at hf
  refine g_iload X dX12_fishFor_11 rfl ?_
  refine g_iconst (v := (5 : Int32)) X dX12_fishFor_13 (by decide) ?_
  refine g_icmp_gt (tgt := 31) X dX12_fishFor_14 (by decide) (fun hc => ?_) (fun hc => ?_)
  · have hf := ife_t hc hf
    refine g_iconst (v := (5 : Int32)) X dX12_fishFor_31 (by decide) ?_
    refine g_istore (lv' := [(6, vI (5 : Int32)), (0, vR (some x0)), (1, vI x1), (2, vI x2), (3, vI x3), (4, vI x4), (5, vI x5)]) X dX12_fishFor_32 (by decide) rfl ?_
    obtain ⟨w92, hw92, hz92⟩ := oI_e hf
    subst hz92
    have hf := hw92
    refine g_sub (lvsub_of _ _ [1, 2, 3, 4, 5, 6, 0] rfl) ?_
    exact tl_X12_fishFor_34 X hr _ _ _ _ _ _ _ _ _ hf hK
  · have hf := ife_f hc hf
    refine g_aload_n X dX12_fishFor_17 rfl rfl ?_
    obtain ⟨hT93, hf⟩ := ck_e hf
    refine g_get (ci := 10) (v := vR (mR M x0 16)) 16 X cdX12 i_X12_fishFor_X12 (by decide) k_X12_fishFor_f62 rfl dX12_fishFor_18 rfl hT93 rfl ?_
    refine g_iload X dX12_fishFor_21 rfl ?_
    refine g_iconst (v := (0 : Int32)) X dX12_fishFor_23 (by decide) ?_
    obtain ⟨a94, ha94, hf⟩ := dr_e hf
    obtain ⟨hT95, hf⟩ := ck_e hf
    obtain ⟨hg96, hf⟩ := ck_e hf
    refine g_iast X dX12_fishFor_24 ha94 hT95 hg96 ?_
    obtain ⟨M97, hM97, hf⟩ := lw_e hf
    rw [← hM97]
    have hT98 : mT M97 x0 = 11 := by rw [hM97]; exact hT93
    have hT99 : mT M97 a94 = 20 := by rw [hM97]; exact hT95
    refine g_iinc (v := (1 : Int32)) (lv' := [(6, vI (x6 + (1 : Int32))), (0, vR (some x0)), (1, vI x1), (2, vI x2), (3, vI x3), (4, vI x4), (5, vI x5)]) X dX12_fishFor_25 rfl (by decide) (by decide) rfl ?_
    refine g_goto (tgt := 11) X dX12_fishFor_28 (by decide) ?_
    cases hf
    refine g_sub (lvsub_of _ _ [1, 2, 3, 4, 5, 6, 0] rfl) ?_
    exact hK
set_option maxHeartbeats 4000000 in
set_option maxRecDepth 100000 in
theorem tl_X12_fishFor_11 (X : gX p s m args meth c D cy B (gSt Z B H0) RX12 cX12_fishFor wsX12_fishFor 7) (hr : meth.sig.returnType = none) {Q : State → Prop} : ∀ (M : gMem) (x0 : Nat) (x1 : Int32) (x2 : Int32) (x3 : Int32) (x4 : Int32) (x5 : Int32) (x6 : Int32) (z : Unit × gMem), lp_X12_fishFor_11 M x0 x1 x2 x3 x4 x5 x6 = some z → (fun (r : Unit × gMem) => Q = gMQ below D cy B H0 args s 0 0 none r.2) z → gGo p l e rX12_fishFor s m args below meth c D cy B H0 7 0 0 Q 11 [(0, vR (some x0)), (1, vI x1), (2, vI x2), (3, vI x3), (4, vI x4), (5, vI x5), (6, vI x6)] [] M := by
  intro M x0 x1 x2 x3 x4 x5 x6 z hf hK
  refine lp_ind (P := (fun (q : gMem × Int32) (z : Unit × gMem) => (fun (r : Unit × gMem) => Q = gMQ below D cy B H0 args s 0 0 none r.2) z → gGo p l e rX12_fishFor s m args below meth c D cy B H0 7 0 0 Q 11 [(0, vR (some x0)), (1, vI x1), (2, vI x2), (3, vI x3), (4, vI x4), (5, vI x5), (6, vI q.2)] [] q.1)) (fun q z hq => ?_) _ _ hf hK
  intro hK
  obtain ⟨w, hw, hm⟩ := hq
  refine tb_X12_fishFor_11 X hr _ _ _ _ _ _ _ _ w hw ?_
  cases w with
  | inl a => exact hm hK
  | inr b => cases hm; exact hK
set_option maxHeartbeats 4000000 in
set_option maxRecDepth 100000 in
theorem t_X12_fishFor_0 (X : gX p s m args meth c D cy B (gSt Z B H0) RX12 cX12_fishFor wsX12_fishFor 7) (hr : meth.sig.returnType = none) {Q : State → Prop} : ∀ (M : gMem) (x0 : Nat) (x1 : Int32) (x2 : Int32) (z : Unit × gMem), b_X12_fishFor_0 M x0 x1 x2 = some z → (fun (r : Unit × gMem) => Q = gMQ below D cy B H0 args s 0 0 none r.2) z → gGo p l e rX12_fishFor s m args below meth c D cy B H0 7 0 0 Q 0 [(0, vR (some x0)), (1, vI x1), (2, vI x2)] [] M := by
  intro M x0 x1 x2 z hf hK
  unfold b_X12_fishFor_0 at hf
  refine g_iconst (v := (0 : Int32)) X dX12_fishFor_0 (by decide) ?_
  refine g_istore_n (lv' := [(3, vI (0 : Int32)), (0, vR (some x0)), (1, vI x1), (2, vI x2)]) X dX12_fishFor_1 rfl (by decide) rfl ?_
  refine g_iconst (v := (0 : Int32)) X dX12_fishFor_2 (by decide) ?_
  refine g_istore (lv' := [(4, vI (0 : Int32)), (3, vI (0 : Int32)), (0, vR (some x0)), (1, vI x1), (2, vI x2)]) X dX12_fishFor_3 (by decide) rfl ?_
  refine g_iconst (v := (1 : Int32)) X dX12_fishFor_5 (by decide) ?_
  refine g_istore (lv' := [(5, vI (1 : Int32)), (4, vI (0 : Int32)), (3, vI (0 : Int32)), (0, vR (some x0)), (1, vI x1), (2, vI x2)]) X dX12_fishFor_6 (by decide) rfl ?_
  refine g_iconst (v := (1 : Int32)) X dX12_fishFor_8 (by decide) ?_
  refine g_istore (lv' := [(6, vI (1 : Int32)), (5, vI (1 : Int32)), (4, vI (0 : Int32)), (3, vI (0 : Int32)), (0, vR (some x0)), (1, vI x1), (2, vI x2)]) X dX12_fishFor_9 (by decide) rfl ?_
  refine g_sub (lvsub_of _ _ [4, 5, 6, 3, 2, 1, 0] rfl) ?_
  exact tl_X12_fishFor_11 X hr _ _ _ _ _ _ _ _ _ hf hK
set_option maxHeartbeats 4000000 in
set_option maxRecDepth 100000 in
theorem m_X12_fishFor (l : Launch) {D : va_G} {cy : Nat → ClassId} {B : Nat} {H0 : Heap} {Z : Nat → Nat} {M M1 : gMem} {x0 : Nat} {x1 : Int32} {x2 : Int32} {r : Unit} (hf : f_X12_fishFor M x0 x1 x2 = some (r, M1)) : Met l yX12_fishFor wsX12_fishFor rX12_fishFor (va_Pc (Value.ref x0 :: List.map gv [vI x1, vI x2]) (gPre D cy B H0 (gSt Z B H0) M)) (gQ D cy B H0 none M1) 0 0 (gA B) := by
  refine Met.ofW (cc := cX12_fishFor) (maxL := 7) (ret := none) (by decide) rfl ?_
  intro p e s m args below meth c s₁ Bd hml hv
  obtain ⟨rfl, hW, hKK, hFs⟩ := hv
  have X : gX p s m _ meth c D cy B (gSt Z B H0) RX12 cX12_fishFor wsX12_fishFor 7 := ⟨Bd.exec, Bd.bytes, atoms_spec (ws := wsX12_fishFor) Bd.pre, findClass_of_methodNamed Bd.named, hml, hKK, by rw [hW.1]; exact hW.2.1, Bd.notSynchronized, hFs⟩
  have hr := Bd.returns
  have hl := lv_entry ([.ref x0, .int x1, .int x2]) (n := 7) (Nat.le_of_ble_eq_true rfl)
  show W p l e rX12_fishFor s m _ below meth c s.heap [] 0 0 _ (entryFrame m ([.ref x0, .int x1, .int x2] : List Value).toArray 7)
  rw [lg_entry_eq]
  generalize (lg_sl ([.ref x0, .int x1, .int x2]) ++ List.replicate (7 - (lg_sl ([.ref x0, .int x1, .int x2])).length) Slot.unset).toArray = ls at hl ⊢
  have hl : lv_has ls 7 (List.map gq [(0, vR (some x0)), (1, vI x1), (2, vI x2)]) := hl
  exact t_X12_fishFor_0 X hr _ _ _ _ _ hf rfl s.heap [] ls hW va_S.rf (lv_has_sub hl (lvsub_of _ _ [0, 1, 2] rfl))
/-! ## TideLotsModel$State.pushed(II)I -/
theorem dX12_pushed_0 : decode cX12_pushed 0 = .ok (.iload_n 1, 1) := by decide +kernel
theorem dX12_pushed_1 : decode cX12_pushed 1 = .ok (.lookupswitch 95 #[(2, 82), (4, 75), (16, 61), (17, 68), (18, 88), (30, 59)], 59) := by decide +kernel
theorem dX12_pushed_60 : decode cX12_pushed 60 = .ok (.iload_n 2, 1) := by decide +kernel
theorem dX12_pushed_61 : decode cX12_pushed 61 = .ok (.ireturn, 1) := by decide +kernel
theorem dX12_pushed_62 : decode cX12_pushed 62 = .ok (.aload_n 0, 1) := by decide +kernel
theorem dX12_pushed_63 : decode cX12_pushed 63 = .ok (.getfield 32, 3) := by decide +kernel
theorem dX12_pushed_66 : decode cX12_pushed 66 = .ok (.iload_n 2, 1) := by decide +kernel
theorem dX12_pushed_67 : decode cX12_pushed 67 = .ok (.iaload, 1) := by decide +kernel
theorem dX12_pushed_68 : decode cX12_pushed 68 = .ok (.ireturn, 1) := by decide +kernel
theorem dX12_pushed_69 : decode cX12_pushed 69 = .ok (.aload_n 0, 1) := by decide +kernel
theorem dX12_pushed_70 : decode cX12_pushed 70 = .ok (.getfield 35, 3) := by decide +kernel
theorem dX12_pushed_73 : decode cX12_pushed 73 = .ok (.iload_n 2, 1) := by decide +kernel
theorem dX12_pushed_74 : decode cX12_pushed 74 = .ok (.iaload, 1) := by decide +kernel
theorem dX12_pushed_75 : decode cX12_pushed 75 = .ok (.ireturn, 1) := by decide +kernel
theorem dX12_pushed_76 : decode cX12_pushed 76 = .ok (.aload_n 0, 1) := by decide +kernel
theorem dX12_pushed_77 : decode cX12_pushed 77 = .ok (.getfield 29, 3) := by decide +kernel
theorem dX12_pushed_80 : decode cX12_pushed 80 = .ok (.iload_n 2, 1) := by decide +kernel
theorem dX12_pushed_81 : decode cX12_pushed 81 = .ok (.iaload, 1) := by decide +kernel
theorem dX12_pushed_82 : decode cX12_pushed 82 = .ok (.ireturn, 1) := by decide +kernel
theorem dX12_pushed_83 : decode cX12_pushed 83 = .ok (.aload_n 0, 1) := by decide +kernel
theorem dX12_pushed_84 : decode cX12_pushed 84 = .ok (.iload_n 2, 1) := by decide +kernel
theorem dX12_pushed_85 : decode cX12_pushed 85 = .ok (.invokevirtual 166, 3) := by decide +kernel
theorem dX12_pushed_88 : decode cX12_pushed 88 = .ok (.ireturn, 1) := by decide +kernel
theorem dX12_pushed_89 : decode cX12_pushed 89 = .ok (.aload_n 0, 1) := by decide +kernel
theorem dX12_pushed_90 : decode cX12_pushed 90 = .ok (.getfield 23, 3) := by decide +kernel
theorem dX12_pushed_93 : decode cX12_pushed 93 = .ok (.iload_n 2, 1) := by decide +kernel
theorem dX12_pushed_94 : decode cX12_pushed 94 = .ok (.iaload, 1) := by decide +kernel
theorem dX12_pushed_95 : decode cX12_pushed 95 = .ok (.ireturn, 1) := by decide +kernel
theorem dX12_pushed_96 : decode cX12_pushed 96 = .ok (.aload_n 0, 1) := by decide +kernel
theorem dX12_pushed_97 : decode cX12_pushed 97 = .ok (.getfield 44, 3) := by decide +kernel
theorem dX12_pushed_100 : decode cX12_pushed 100 = .ok (.iload_n 2, 1) := by decide +kernel
theorem dX12_pushed_101 : decode cX12_pushed 101 = .ok (.iaload, 1) := by decide +kernel
theorem dX12_pushed_102 : decode cX12_pushed 102 = .ok (.ireturn, 1) := by decide +kernel
set_option maxRecDepth 20000 in
theorem ggX12_pushed_X12_fishAt : GoodIn wsX12_pushed wsX12_fishAt := goodIn_r _ [10, 11, 12, 13, 14, 15, 16, 17, 18, 19, 20, 21, 22, 23, 24, 25, 26, 27, 28, 29, 30] (by decide +kernel) (by decide +kernel)
set_option maxRecDepth 20000 in
theorem gX12_pushed_X12_fishAt : GoodIn wsX12_pushed (wsV RX12 166 RX12 yX12_fishAt wsX12_fishAt) := goodIn_app (goodIn_of _ (by decide +kernel)) ggX12_pushed_X12_fishAt
theorem k_X12_pushed_f29 : Cond.fieldLink RX12 29 "TideLotsModel$State" "mesh" "[I" ∈ wsX12_pushed := by decide +kernel
theorem i_X12_pushed_X12 : ∀ w ∈ u_ws RX12 TX12 19, w ∈ wsX12_pushed := by decide +kernel
theorem k_X12_pushed_f32 : Cond.fieldLink RX12 32 "TideLotsModel$State" "store" "[I" ∈ wsX12_pushed := by decide +kernel
theorem k_X12_pushed_f35 : Cond.fieldLink RX12 35 "TideLotsModel$State" "caught" "[I" ∈ wsX12_pushed := by decide +kernel
theorem k_X12_pushed_f23 : Cond.fieldLink RX12 23 "TideLotsModel$State" "boats" "[I" ∈ wsX12_pushed := by decide +kernel
theorem k_X12_pushed_f44 : Cond.fieldLink RX12 44 "TideLotsModel$State" "cheats" "[I" ∈ wsX12_pushed := by decide +kernel
abbrev rX12_pushed : Room := { frames := 1, cells := 0, slots := 0, locals := 23 }
noncomputable def b_X12_pushed_0 (M : gMem) (x0 : Nat) (x1 : Int32) (x2 : Int32) : Option (Int32 × gMem) :=
  (if x1 = (2 : Int32) then ck (mT M x0 = 11) <| bd (f_X12_fishAt M x0 x2) fun r2 M2 => some (r2, M2) else (if x1 = (4 : Int32) then ck (mT M x0 = 11) <| dr ((mR M x0 5)) fun a6 => ck (mT M a6 = 20) <| ck (inb x2 (mL M a6)) <| some ((mI M a6 x2.toNatClampNeg), M) else (if x1 = (16 : Int32) then ck (mT M x0 = 11) <| dr ((mR M x0 6)) fun a11 => ck (mT M a11 = 20) <| ck (inb x2 (mL M a11)) <| some ((mI M a11 x2.toNatClampNeg), M) else (if x1 = (17 : Int32) then ck (mT M x0 = 11) <| dr ((mR M x0 7)) fun a16 => ck (mT M a16 = 20) <| ck (inb x2 (mL M a16)) <| some ((mI M a16 x2.toNatClampNeg), M) else (if x1 = (18 : Int32) then ck (mT M x0 = 11) <| dr ((mR M x0 3)) fun a21 => ck (mT M a21 = 20) <| ck (inb x2 (mL M a21)) <| some ((mI M a21 x2.toNatClampNeg), M) else (if x1 = (30 : Int32) then some (x2, M) else ck (mT M x0 = 11) <| dr ((mR M x0 10)) fun a26 => ck (mT M a26 = 20) <| ck (inb x2 (mL M a26)) <| some ((mI M a26 x2.toNatClampNeg), M)))))))
noncomputable def f_X12_pushed (M : gMem) (x0 : Nat) (x1 : Int32) (x2 : Int32) : Option (Int32 × gMem) :=
  b_X12_pushed_0 M x0 x1 x2
set_option maxHeartbeats 4000000 in
set_option maxRecDepth 100000 in
theorem t_X12_pushed_0 (X : gX p s m args meth c D cy B (gSt Z B H0) RX12 cX12_pushed wsX12_pushed 3) (hr : meth.sig.returnType = (some .int)) {Q : State → Prop} : ∀ (M : gMem) (x0 : Nat) (x1 : Int32) (x2 : Int32) (z : Int32 × gMem), b_X12_pushed_0 M x0 x1 x2 = some z → (fun (r : Int32 × gMem) => Q = gMQ below D cy B H0 args s 0 0 (some (vI r.1)) r.2) z → gGo p l e rX12_pushed s m args below meth c D cy B H0 3 0 0 Q 0 [(0, vR (some x0)), (1, vI x1), (2, vI x2)] [] M := by
  intro M x0 x1 x2 z hf hK
  unfold b_X12_pushed_0 at hf
  refine g_iload_n X dX12_pushed_0 rfl rfl ?_
  by_cases hs1 : x1 = (2 : Int32)
  · have hf := ife_t hs1 hf
    refine g_lookup (off := 82) (tgt := 83) X dX12_pushed_1 (by decide) (by rw [hs1]; decide) (by decide) ?_
    refine g_aload_n X dX12_pushed_83 rfl rfl ?_
    refine g_iload_n X dX12_pushed_84 rfl rfl ?_
    obtain ⟨hT3, hf⟩ := ck_e hf
    obtain ⟨r2, M2, hq2, hf⟩ := bd_e hf
    refine g_callV (ci := 10) (b := x0) (As := [vI x2]) (st := []) (v := some (vI r2)) (M1 := M2) X (m_X12_fishAt l hq2) (cwV 1 X.2.2.1 gX12_pushed_X12_fishAt rfl rfl rfl (by decide +kernel) ⟨Nat.le_of_ble_eq_true rfl, Nat.le_of_ble_eq_true rfl⟩) rfl rfl rfl hT3 (by decide) rfl (Nat.le_of_ble_eq_true rfl) dX12_pushed_85 ⟨by decide, by decide⟩ ?_
    cases hf
    refine g_eqQ hK ?_
    exact g_iret X hr dX12_pushed_88
  · have hf := ife_f hs1 hf
    by_cases hs4 : x1 = (4 : Int32)
    · have hf := ife_t hs4 hf
      refine g_lookup (off := 75) (tgt := 76) X dX12_pushed_1 (by decide) (by rw [hs4]; decide) (by decide) ?_
      refine g_aload_n X dX12_pushed_76 rfl rfl ?_
      obtain ⟨hT5, hf⟩ := ck_e hf
      refine g_get (ci := 10) (v := vR (mR M x0 5)) 5 X cdX12 i_X12_pushed_X12 (by decide) k_X12_pushed_f29 rfl dX12_pushed_77 rfl hT5 rfl ?_
      refine g_iload_n X dX12_pushed_80 rfl rfl ?_
      obtain ⟨a6, ha6, hf⟩ := dr_e hf
      obtain ⟨hT7, hf⟩ := ck_e hf
      obtain ⟨hg8, hf⟩ := ck_e hf
      refine g_iald X dX12_pushed_81 ha6 hT7 hg8 ?_
      cases hf
      refine g_eqQ hK ?_
      exact g_iret X hr dX12_pushed_82
    · have hf := ife_f hs4 hf
      by_cases hs9 : x1 = (16 : Int32)
      · have hf := ife_t hs9 hf
        refine g_lookup (off := 61) (tgt := 62) X dX12_pushed_1 (by decide) (by rw [hs9]; decide) (by decide) ?_
        refine g_aload_n X dX12_pushed_62 rfl rfl ?_
        obtain ⟨hT10, hf⟩ := ck_e hf
        refine g_get (ci := 10) (v := vR (mR M x0 6)) 6 X cdX12 i_X12_pushed_X12 (by decide) k_X12_pushed_f32 rfl dX12_pushed_63 rfl hT10 rfl ?_
        refine g_iload_n X dX12_pushed_66 rfl rfl ?_
        obtain ⟨a11, ha11, hf⟩ := dr_e hf
        obtain ⟨hT12, hf⟩ := ck_e hf
        obtain ⟨hg13, hf⟩ := ck_e hf
        refine g_iald X dX12_pushed_67 ha11 hT12 hg13 ?_
        cases hf
        refine g_eqQ hK ?_
        exact g_iret X hr dX12_pushed_68
      · have hf := ife_f hs9 hf
        by_cases hs14 : x1 = (17 : Int32)
        · have hf := ife_t hs14 hf
          refine g_lookup (off := 68) (tgt := 69) X dX12_pushed_1 (by decide) (by rw [hs14]; decide) (by decide) ?_
          refine g_aload_n X dX12_pushed_69 rfl rfl ?_
          obtain ⟨hT15, hf⟩ := ck_e hf
          refine g_get (ci := 10) (v := vR (mR M x0 7)) 7 X cdX12 i_X12_pushed_X12 (by decide) k_X12_pushed_f35 rfl dX12_pushed_70 rfl hT15 rfl ?_
          refine g_iload_n X dX12_pushed_73 rfl rfl ?_
          obtain ⟨a16, ha16, hf⟩ := dr_e hf
          obtain ⟨hT17, hf⟩ := ck_e hf
          obtain ⟨hg18, hf⟩ := ck_e hf
          refine g_iald X dX12_pushed_74 ha16 hT17 hg18 ?_
          cases hf
          refine g_eqQ hK ?_
          exact g_iret X hr dX12_pushed_75
        · have hf := ife_f hs14 hf
          by_cases hs19 : x1 = (18 : Int32)
          · have hf := ife_t hs19 hf
            refine g_lookup (off := 88) (tgt := 89) X dX12_pushed_1 (by decide) (by rw [hs19]; decide) (by decide) ?_
            refine g_aload_n X dX12_pushed_89 rfl rfl ?_
            obtain ⟨hT20, hf⟩ := ck_e hf
            refine g_get (ci := 10) (v := vR (mR M x0 3)) 3 X cdX12 i_X12_pushed_X12 (by decide) k_X12_pushed_f23 rfl dX12_pushed_90 rfl hT20 rfl ?_
            refine g_iload_n X dX12_pushed_93 rfl rfl ?_
            obtain ⟨a21, ha21, hf⟩ := dr_e hf
            obtain ⟨hT22, hf⟩ := ck_e hf
            obtain ⟨hg23, hf⟩ := ck_e hf
            refine g_iald X dX12_pushed_94 ha21 hT22 hg23 ?_
            cases hf
            refine g_eqQ hK ?_
            exact g_iret X hr dX12_pushed_95
          · have hf := ife_f hs19 hf
            by_cases hs24 : x1 = (30 : Int32)
            · have hf := ife_t hs24 hf
              refine g_lookup (off := 59) (tgt := 60) X dX12_pushed_1 (by decide) (by rw [hs24]; decide) (by decide) ?_
              refine g_iload_n X dX12_pushed_60 rfl rfl ?_
              cases hf
              refine g_eqQ hK ?_
              exact g_iret X hr dX12_pushed_61
            · have hf := ife_f hs24 hf
              refine g_lookup (off := 95) (tgt := 96) X dX12_pushed_1 (by decide) (glk_out _ (fun q hq => by rcases (show q = (2, 82) ∨ q = (4, 75) ∨ q = (16, 61) ∨ q = (17, 68) ∨ q = (18, 88) ∨ q = (30, 59) by simpa using hq) with rfl | rfl | rfl | rfl | rfl | rfl <;> first | exact gne hs1 | exact gne hs4 | exact gne hs9 | exact gne hs14 | exact gne hs19 | exact gne hs24)) (by decide) ?_
              refine g_aload_n X dX12_pushed_96 rfl rfl ?_
              obtain ⟨hT25, hf⟩ := ck_e hf
              refine g_get (ci := 10) (v := vR (mR M x0 10)) 10 X cdX12 i_X12_pushed_X12 (by decide) k_X12_pushed_f44 rfl dX12_pushed_97 rfl hT25 rfl ?_
              refine g_iload_n X dX12_pushed_100 rfl rfl ?_
              obtain ⟨a26, ha26, hf⟩ := dr_e hf
              obtain ⟨hT27, hf⟩ := ck_e hf
              obtain ⟨hg28, hf⟩ := ck_e hf
              refine g_iald X dX12_pushed_101 ha26 hT27 hg28 ?_
              cases hf
              refine g_eqQ hK ?_
              exact g_iret X hr dX12_pushed_102
set_option maxHeartbeats 4000000 in
set_option maxRecDepth 100000 in
theorem m_X12_pushed (l : Launch) {D : va_G} {cy : Nat → ClassId} {B : Nat} {H0 : Heap} {Z : Nat → Nat} {M M1 : gMem} {x0 : Nat} {x1 : Int32} {x2 : Int32} {r : Int32} (hf : f_X12_pushed M x0 x1 x2 = some (r, M1)) : Met l yX12_pushed wsX12_pushed rX12_pushed (va_Pc (Value.ref x0 :: List.map gv [vI x1, vI x2]) (gPre D cy B H0 (gSt Z B H0) M)) (gQ D cy B H0 (some (vI r)) M1) 0 0 (gA B) := by
  refine Met.ofW (cc := cX12_pushed) (maxL := 3) (ret := (some .int)) (by decide) rfl ?_
  intro p e s m args below meth c s₁ Bd hml hv
  obtain ⟨rfl, hW, hKK, hFs⟩ := hv
  have X : gX p s m _ meth c D cy B (gSt Z B H0) RX12 cX12_pushed wsX12_pushed 3 := ⟨Bd.exec, Bd.bytes, atoms_spec (ws := wsX12_pushed) Bd.pre, findClass_of_methodNamed Bd.named, hml, hKK, by rw [hW.1]; exact hW.2.1, Bd.notSynchronized, hFs⟩
  have hr := Bd.returns
  have hl := lv_entry ([.ref x0, .int x1, .int x2]) (n := 3) (Nat.le_of_ble_eq_true rfl)
  show W p l e rX12_pushed s m _ below meth c s.heap [] 0 0 _ (entryFrame m ([.ref x0, .int x1, .int x2] : List Value).toArray 3)
  rw [lg_entry_eq]
  generalize (lg_sl ([.ref x0, .int x1, .int x2]) ++ List.replicate (3 - (lg_sl ([.ref x0, .int x1, .int x2])).length) Slot.unset).toArray = ls at hl ⊢
  have hl : lv_has ls 3 (List.map gq [(0, vR (some x0)), (1, vI x1), (2, vI x2)]) := hl
  exact t_X12_pushed_0 X hr _ _ _ _ _ hf rfl s.heap [] ls hW va_S.rf (lv_has_sub hl (lvsub_of _ _ [0, 1, 2] rfl))
/-! ## TideLotsModel.isIn(III)Z -/
theorem dX14_isIn_0 : decode cX14_isIn 0 = .ok (.iload_n 0, 1) := by decide +kernel
theorem dX14_isIn_1 : decode cX14_isIn 1 = .ok (.iload_n 1, 1) := by decide +kernel
theorem dX14_isIn_2 : decode cX14_isIn 2 = .ok (.if_icmp .lt 12, 3) := by decide +kernel
theorem dX14_isIn_5 : decode cX14_isIn 5 = .ok (.iload_n 0, 1) := by decide +kernel
theorem dX14_isIn_6 : decode cX14_isIn 6 = .ok (.iload_n 2, 1) := by decide +kernel
theorem dX14_isIn_7 : decode cX14_isIn 7 = .ok (.if_icmp .gt 7, 3) := by decide +kernel
theorem dX14_isIn_10 : decode cX14_isIn 10 = .ok (.iconst 1, 1) := by decide +kernel
theorem dX14_isIn_11 : decode cX14_isIn 11 = .ok (.goto 4, 3) := by decide +kernel
theorem dX14_isIn_14 : decode cX14_isIn 14 = .ok (.iconst 0, 1) := by decide +kernel
theorem dX14_isIn_15 : decode cX14_isIn 15 = .ok (.ireturn, 1) := by decide +kernel
abbrev rX14_isIn : Room := { frames := 0, cells := 0, slots := 0, locals := 0 }
noncomputable def b_X14_isIn_15 (M : gMem) (s0 : Int32) : Option (Int32 × gMem) :=
  ck (s0 = 0 ∨ s0 = 1) <| some (s0, M)
noncomputable def b_X14_isIn_14 (M : gMem)  : Option (Int32 × gMem) :=
  b_X14_isIn_15 M ((0 : Int32))
noncomputable def b_X14_isIn_0 (M : gMem) (x0 : Int32) (x1 : Int32) (x2 : Int32) : Option (Int32 × gMem) :=
  (if x0 < x1 then b_X14_isIn_14 M  else (if x2 < x0 then b_X14_isIn_14 M  else b_X14_isIn_15 M ((1 : Int32))))
noncomputable def f_X14_isIn (M : gMem) (x0 : Int32) (x1 : Int32) (x2 : Int32) : Option (Int32 × gMem) :=
  b_X14_isIn_0 M x0 x1 x2
set_option maxHeartbeats 4000000 in
set_option maxRecDepth 100000 in
theorem t_X14_isIn_15 (X : gX p s m args meth c D cy B (gSt Z B H0) RX14 cX14_isIn wsX14_isIn 3) (hr : meth.sig.returnType = (some .boolean)) {Q : State → Prop} : ∀ (M : gMem) (s0 : Int32) (z : Int32 × gMem), b_X14_isIn_15 M s0 = some z → (fun (r : Int32 × gMem) => Q = gMQ below D cy B H0 args s 0 0 (some (vI r.1)) r.2) z → gGo p l e rX14_isIn s m args below meth c D cy B H0 3 0 0 Q 15 [] [vI s0] M := by
  intro M s0 z hf hK
  unfold b_X14_isIn_15 at hf
  obtain ⟨hg1, hf⟩ := ck_e hf
  cases hf
  refine g_eqQ hK ?_
  exact g_zret X hr (gnb hg1) dX14_isIn_15
set_option maxHeartbeats 4000000 in
set_option maxRecDepth 100000 in
theorem t_X14_isIn_14 (X : gX p s m args meth c D cy B (gSt Z B H0) RX14 cX14_isIn wsX14_isIn 3) (hr : meth.sig.returnType = (some .boolean)) {Q : State → Prop} : ∀ (M : gMem)  (z : Int32 × gMem), b_X14_isIn_14 M  = some z → (fun (r : Int32 × gMem) => Q = gMQ below D cy B H0 args s 0 0 (some (vI r.1)) r.2) z → gGo p l e rX14_isIn s m args below meth c D cy B H0 3 0 0 Q 14 [] [] M := by
  intro M  z hf hK
  unfold b_X14_isIn_14 at hf
  refine g_iconst (v := (0 : Int32)) X dX14_isIn_14 (by decide) ?_
  refine g_sub (lvsub_of _ _ [] rfl) ?_
  exact t_X14_isIn_15 X hr _ _ _ hf hK
set_option maxHeartbeats 4000000 in
set_option maxRecDepth 100000 in
theorem t_X14_isIn_0 (X : gX p s m args meth c D cy B (gSt Z B H0) RX14 cX14_isIn wsX14_isIn 3) (hr : meth.sig.returnType = (some .boolean)) {Q : State → Prop} : ∀ (M : gMem) (x0 : Int32) (x1 : Int32) (x2 : Int32) (z : Int32 × gMem), b_X14_isIn_0 M x0 x1 x2 = some z → (fun (r : Int32 × gMem) => Q = gMQ below D cy B H0 args s 0 0 (some (vI r.1)) r.2) z → gGo p l e rX14_isIn s m args below meth c D cy B H0 3 0 0 Q 0 [(0, vI x0), (1, vI x1), (2, vI x2)] [] M := by
  intro M x0 x1 x2 z hf hK
  unfold b_X14_isIn_0 at hf
  refine g_iload_n X dX14_isIn_0 rfl rfl ?_
  refine g_iload_n X dX14_isIn_1 rfl rfl ?_
  refine g_icmp_lt (tgt := 14) X dX14_isIn_2 (by decide) (fun hc => ?_) (fun hc => ?_)
  · have hf := ife_t hc hf
    refine g_sub (lvsub_of _ _ [] rfl) ?_
    exact t_X14_isIn_14 X hr _  _ hf hK
  · have hf := ife_f hc hf
    refine g_iload_n X dX14_isIn_5 rfl rfl ?_
    refine g_iload_n X dX14_isIn_6 rfl rfl ?_
    refine g_icmp_gt (tgt := 14) X dX14_isIn_7 (by decide) (fun hc => ?_) (fun hc => ?_)
    · have hf := ife_t hc hf
      refine g_sub (lvsub_of _ _ [] rfl) ?_
      exact t_X14_isIn_14 X hr _  _ hf hK
    · have hf := ife_f hc hf
      refine g_iconst (v := (1 : Int32)) X dX14_isIn_10 (by decide) ?_
      refine g_goto (tgt := 15) X dX14_isIn_11 (by decide) ?_
      refine g_sub (lvsub_of _ _ [] rfl) ?_
      exact t_X14_isIn_15 X hr _ _ _ hf hK
set_option maxHeartbeats 4000000 in
set_option maxRecDepth 100000 in
theorem m_X14_isIn (l : Launch) {D : va_G} {cy : Nat → ClassId} {B : Nat} {H0 : Heap} {Z : Nat → Nat} {M M1 : gMem} {x0 : Int32} {x1 : Int32} {x2 : Int32} {r : Int32} (hf : f_X14_isIn M x0 x1 x2 = some (r, M1)) : Met l yX14_isIn wsX14_isIn rX14_isIn (va_Pc (List.map gv [vI x0, vI x1, vI x2]) (gPre D cy B H0 (gSt Z B H0) M)) (gQ D cy B H0 (some (vI r)) M1) 0 0 (gA B) := by
  refine Met.ofW (cc := cX14_isIn) (maxL := 3) (ret := (some .boolean)) (by decide) rfl ?_
  intro p e s m args below meth c s₁ Bd hml hv
  obtain ⟨rfl, hW, hKK, hFs⟩ := hv
  have X : gX p s m _ meth c D cy B (gSt Z B H0) RX14 cX14_isIn wsX14_isIn 3 := ⟨Bd.exec, Bd.bytes, atoms_spec (ws := wsX14_isIn) Bd.pre, findClass_of_methodNamed Bd.named, hml, hKK, by rw [hW.1]; exact hW.2.1, Bd.notSynchronized, hFs⟩
  have hr := Bd.returns
  have hl := lv_entry ([.int x0, .int x1, .int x2]) (n := 3) (Nat.le_of_ble_eq_true rfl)
  show W p l e rX14_isIn s m _ below meth c s.heap [] 0 0 _ (entryFrame m ([.int x0, .int x1, .int x2] : List Value).toArray 3)
  rw [lg_entry_eq]
  generalize (lg_sl ([.int x0, .int x1, .int x2]) ++ List.replicate (3 - (lg_sl ([.int x0, .int x1, .int x2])).length) Slot.unset).toArray = ls at hl ⊢
  have hl : lv_has ls 3 (List.map gq [(0, vI x0), (1, vI x1), (2, vI x2)]) := hl
  exact t_X14_isIn_0 X hr _ _ _ _ _ hf rfl s.heap [] ls hW va_S.rf (lv_has_sub hl (lvsub_of _ _ [0, 1, 2] rfl))
/-! ## TideLotsModel.isPushed(I)Z -/
theorem dX14_isPushed_0 : decode cX14_isPushed 0 = .ok (.iload_n 0, 1) := by decide +kernel
theorem dX14_isPushed_1 : decode cX14_isPushed 1 = .ok (.bipush 30, 2) := by decide +kernel
theorem dX14_isPushed_3 : decode cX14_isPushed 3 = .ok (.if_icmp .eq 24, 3) := by decide +kernel
theorem dX14_isPushed_6 : decode cX14_isPushed 6 = .ok (.iload_n 0, 1) := by decide +kernel
theorem dX14_isPushed_7 : decode cX14_isPushed 7 = .ok (.iconst 2, 1) := by decide +kernel
theorem dX14_isPushed_8 : decode cX14_isPushed 8 = .ok (.if_icmp .eq 19, 3) := by decide +kernel
theorem dX14_isPushed_11 : decode cX14_isPushed 11 = .ok (.iload_n 0, 1) := by decide +kernel
theorem dX14_isPushed_12 : decode cX14_isPushed 12 = .ok (.iconst 4, 1) := by decide +kernel
theorem dX14_isPushed_13 : decode cX14_isPushed 13 = .ok (.if_icmp .eq 14, 3) := by decide +kernel
theorem dX14_isPushed_16 : decode cX14_isPushed 16 = .ok (.iload_n 0, 1) := by decide +kernel
theorem dX14_isPushed_17 : decode cX14_isPushed 17 = .ok (.bipush 15, 2) := by decide +kernel
theorem dX14_isPushed_19 : decode cX14_isPushed 19 = .ok (.bipush 19, 2) := by decide +kernel
theorem dX14_isPushed_21 : decode cX14_isPushed 21 = .ok (.invokestatic 63, 3) := by decide +kernel
theorem dX14_isPushed_24 : decode cX14_isPushed 24 = .ok (.ifCond .eq 7, 3) := by decide +kernel
theorem dX14_isPushed_27 : decode cX14_isPushed 27 = .ok (.iconst 1, 1) := by decide +kernel
theorem dX14_isPushed_28 : decode cX14_isPushed 28 = .ok (.goto 4, 3) := by decide +kernel
theorem dX14_isPushed_31 : decode cX14_isPushed 31 = .ok (.iconst 0, 1) := by decide +kernel
theorem dX14_isPushed_32 : decode cX14_isPushed 32 = .ok (.ireturn, 1) := by decide +kernel
set_option maxRecDepth 20000 in
theorem ggX14_isPushed_X14_isIn : GoodIn wsX14_isPushed wsX14_isIn := goodIn_r _ [4] (by decide +kernel) (by decide +kernel)
set_option maxRecDepth 20000 in
theorem gX14_isPushed_X14_isIn : GoodIn wsX14_isPushed (va_wsS RX14 63 yX14_isIn wsX14_isIn) := goodIn_app (goodIn_of _ (by decide +kernel)) ggX14_isPushed_X14_isIn
abbrev rX14_isPushed : Room := { frames := 1, cells := 0, slots := 0, locals := 22 }
noncomputable def b_X14_isPushed_32 (M : gMem) (s0 : Int32) : Option (Int32 × gMem) :=
  ck (s0 = 0 ∨ s0 = 1) <| some (s0, M)
noncomputable def b_X14_isPushed_27 (M : gMem)  : Option (Int32 × gMem) :=
  b_X14_isPushed_32 M ((1 : Int32))
noncomputable def b_X14_isPushed_0 (M : gMem) (x0 : Int32) : Option (Int32 × gMem) :=
  (if x0 = (30 : Int32) then b_X14_isPushed_27 M  else (if x0 = (2 : Int32) then b_X14_isPushed_27 M  else (if x0 = (4 : Int32) then b_X14_isPushed_27 M  else bd (f_X14_isIn M x0 ((15 : Int32)) ((19 : Int32))) fun r2 M2 => (if r2 = 0 then b_X14_isPushed_32 M2 ((0 : Int32)) else b_X14_isPushed_27 M2 ))))
noncomputable def f_X14_isPushed (M : gMem) (x0 : Int32) : Option (Int32 × gMem) :=
  b_X14_isPushed_0 M x0
set_option maxHeartbeats 4000000 in
set_option maxRecDepth 100000 in
theorem t_X14_isPushed_32 (X : gX p s m args meth c D cy B (gSt Z B H0) RX14 cX14_isPushed wsX14_isPushed 1) (hr : meth.sig.returnType = (some .boolean)) {Q : State → Prop} : ∀ (M : gMem) (s0 : Int32) (z : Int32 × gMem), b_X14_isPushed_32 M s0 = some z → (fun (r : Int32 × gMem) => Q = gMQ below D cy B H0 args s 0 0 (some (vI r.1)) r.2) z → gGo p l e rX14_isPushed s m args below meth c D cy B H0 1 0 0 Q 32 [] [vI s0] M := by
  intro M s0 z hf hK
  unfold b_X14_isPushed_32 at hf
  obtain ⟨hg1, hf⟩ := ck_e hf
  cases hf
  refine g_eqQ hK ?_
  exact g_zret X hr (gnb hg1) dX14_isPushed_32
set_option maxHeartbeats 4000000 in
set_option maxRecDepth 100000 in
theorem t_X14_isPushed_27 (X : gX p s m args meth c D cy B (gSt Z B H0) RX14 cX14_isPushed wsX14_isPushed 1) (hr : meth.sig.returnType = (some .boolean)) {Q : State → Prop} : ∀ (M : gMem)  (z : Int32 × gMem), b_X14_isPushed_27 M  = some z → (fun (r : Int32 × gMem) => Q = gMQ below D cy B H0 args s 0 0 (some (vI r.1)) r.2) z → gGo p l e rX14_isPushed s m args below meth c D cy B H0 1 0 0 Q 27 [] [] M := by
  intro M  z hf hK
  unfold b_X14_isPushed_27 at hf
  refine g_iconst (v := (1 : Int32)) X dX14_isPushed_27 (by decide) ?_
  refine g_goto (tgt := 32) X dX14_isPushed_28 (by decide) ?_
  refine g_sub (lvsub_of _ _ [] rfl) ?_
  exact t_X14_isPushed_32 X hr _ _ _ hf hK
set_option maxHeartbeats 4000000 in
set_option maxRecDepth 100000 in
theorem t_X14_isPushed_0 (X : gX p s m args meth c D cy B (gSt Z B H0) RX14 cX14_isPushed wsX14_isPushed 1) (hr : meth.sig.returnType = (some .boolean)) {Q : State → Prop} : ∀ (M : gMem) (x0 : Int32) (z : Int32 × gMem), b_X14_isPushed_0 M x0 = some z → (fun (r : Int32 × gMem) => Q = gMQ below D cy B H0 args s 0 0 (some (vI r.1)) r.2) z → gGo p l e rX14_isPushed s m args below meth c D cy B H0 1 0 0 Q 0 [(0, vI x0)] [] M := by
  intro M x0 z hf hK
  unfold b_X14_isPushed_0 at hf
  refine g_iload_n X dX14_isPushed_0 rfl rfl ?_
  refine g_bipush (v := (30 : Int32)) X dX14_isPushed_1 (by decide) ?_
  refine g_icmp_eq (tgt := 27) X dX14_isPushed_3 (by decide) (fun hc => ?_) (fun hc => ?_)
  · have hf := ife_t hc hf
    refine g_sub (lvsub_of _ _ [] rfl) ?_
    exact t_X14_isPushed_27 X hr _  _ hf hK
  · have hf := ife_f hc hf
    refine g_iload_n X dX14_isPushed_6 rfl rfl ?_
    refine g_iconst (v := (2 : Int32)) X dX14_isPushed_7 (by decide) ?_
    refine g_icmp_eq (tgt := 27) X dX14_isPushed_8 (by decide) (fun hc => ?_) (fun hc => ?_)
    · have hf := ife_t hc hf
      refine g_sub (lvsub_of _ _ [] rfl) ?_
      exact t_X14_isPushed_27 X hr _  _ hf hK
    · have hf := ife_f hc hf
      refine g_iload_n X dX14_isPushed_11 rfl rfl ?_
      refine g_iconst (v := (4 : Int32)) X dX14_isPushed_12 (by decide) ?_
      refine g_icmp_eq (tgt := 27) X dX14_isPushed_13 (by decide) (fun hc => ?_) (fun hc => ?_)
      · have hf := ife_t hc hf
        refine g_sub (lvsub_of _ _ [] rfl) ?_
        exact t_X14_isPushed_27 X hr _  _ hf hK
      · have hf := ife_f hc hf
        refine g_iload_n X dX14_isPushed_16 rfl rfl ?_
        refine g_bipush (v := (15 : Int32)) X dX14_isPushed_17 (by decide) ?_
        refine g_bipush (v := (19 : Int32)) X dX14_isPushed_19 (by decide) ?_
        obtain ⟨r2, M2, hq2, hf⟩ := bd_e hf
        refine g_callS (As := [vI x0, vI (15 : Int32), vI (19 : Int32)]) (st := []) (v := some (vI r2)) (M1 := M2) X (m_X14_isIn l hq2) (va_cwS 3 X.2.2.1 gX14_isPushed_X14_isIn rfl rfl rfl (by decide +kernel) ⟨Nat.le_of_ble_eq_true rfl, Nat.le_of_ble_eq_true rfl⟩) rfl rfl (Nat.le_of_ble_eq_true rfl) dX14_isPushed_21 ⟨by decide, by decide⟩ ?_
        refine g_if_eq (tgt := 31) X dX14_isPushed_24 (by decide) (fun hc => ?_) (fun hc => ?_)
        · have hf := ife_t hc hf
          refine g_iconst (v := (0 : Int32)) X dX14_isPushed_31 (by decide) ?_
          refine g_sub (lvsub_of _ _ [] rfl) ?_
          exact t_X14_isPushed_32 X hr _ _ _ hf hK
        · have hf := ife_f hc hf
          refine g_sub (lvsub_of _ _ [] rfl) ?_
          exact t_X14_isPushed_27 X hr _  _ hf hK
set_option maxHeartbeats 4000000 in
set_option maxRecDepth 100000 in
theorem m_X14_isPushed (l : Launch) {D : va_G} {cy : Nat → ClassId} {B : Nat} {H0 : Heap} {Z : Nat → Nat} {M M1 : gMem} {x0 : Int32} {r : Int32} (hf : f_X14_isPushed M x0 = some (r, M1)) : Met l yX14_isPushed wsX14_isPushed rX14_isPushed (va_Pc (List.map gv [vI x0]) (gPre D cy B H0 (gSt Z B H0) M)) (gQ D cy B H0 (some (vI r)) M1) 0 0 (gA B) := by
  refine Met.ofW (cc := cX14_isPushed) (maxL := 1) (ret := (some .boolean)) (by decide) rfl ?_
  intro p e s m args below meth c s₁ Bd hml hv
  obtain ⟨rfl, hW, hKK, hFs⟩ := hv
  have X : gX p s m _ meth c D cy B (gSt Z B H0) RX14 cX14_isPushed wsX14_isPushed 1 := ⟨Bd.exec, Bd.bytes, atoms_spec (ws := wsX14_isPushed) Bd.pre, findClass_of_methodNamed Bd.named, hml, hKK, by rw [hW.1]; exact hW.2.1, Bd.notSynchronized, hFs⟩
  have hr := Bd.returns
  have hl := lv_entry ([.int x0]) (n := 1) (Nat.le_of_ble_eq_true rfl)
  show W p l e rX14_isPushed s m _ below meth c s.heap [] 0 0 _ (entryFrame m ([.int x0] : List Value).toArray 1)
  rw [lg_entry_eq]
  generalize (lg_sl ([.int x0]) ++ List.replicate (1 - (lg_sl ([.int x0])).length) Slot.unset).toArray = ls at hl ⊢
  have hl : lv_has ls 1 (List.map gq [(0, vI x0)]) := hl
  exact t_X14_isPushed_0 X hr _ _ _ hf rfl s.heap [] ls hW va_S.rf (lv_has_sub hl (lvsub_of _ _ [0] rfl))
/-! ## TideLotsModel.both(III)I -/
theorem dX14_both_0 : decode cX14_both 0 = .ok (.iload_n 0, 1) := by decide +kernel
theorem dX14_both_1 : decode cX14_both 1 = .ok (.tableswitch 190 21 40 #[186, 190, 119, 125, 190, 190, 190, 190, 190, 190, 190, 95, 99, 103, 107, 131, 142, 153, 164, 175], 95) := by decide +kernel
theorem dX14_both_96 : decode cX14_both 96 = .ok (.iload_n 1, 1) := by decide +kernel
theorem dX14_both_97 : decode cX14_both 97 = .ok (.iload_n 2, 1) := by decide +kernel
theorem dX14_both_98 : decode cX14_both 98 = .ok (.iadd, 1) := by decide +kernel
theorem dX14_both_99 : decode cX14_both 99 = .ok (.ireturn, 1) := by decide +kernel
theorem dX14_both_100 : decode cX14_both 100 = .ok (.iload_n 1, 1) := by decide +kernel
theorem dX14_both_101 : decode cX14_both 101 = .ok (.iload_n 2, 1) := by decide +kernel
theorem dX14_both_102 : decode cX14_both 102 = .ok (.isub, 1) := by decide +kernel
theorem dX14_both_103 : decode cX14_both 103 = .ok (.ireturn, 1) := by decide +kernel
theorem dX14_both_104 : decode cX14_both 104 = .ok (.iload_n 1, 1) := by decide +kernel
theorem dX14_both_105 : decode cX14_both 105 = .ok (.iload_n 2, 1) := by decide +kernel
theorem dX14_both_106 : decode cX14_both 106 = .ok (.imul, 1) := by decide +kernel
theorem dX14_both_107 : decode cX14_both 107 = .ok (.ireturn, 1) := by decide +kernel
theorem dX14_both_108 : decode cX14_both 108 = .ok (.iload_n 2, 1) := by decide +kernel
theorem dX14_both_109 : decode cX14_both 109 = .ok (.ifCond .ne 7, 3) := by decide +kernel
theorem dX14_both_112 : decode cX14_both 112 = .ok (.iconst 0, 1) := by decide +kernel
theorem dX14_both_113 : decode cX14_both 113 = .ok (.goto 6, 3) := by decide +kernel
theorem dX14_both_116 : decode cX14_both 116 = .ok (.iload_n 1, 1) := by decide +kernel
theorem dX14_both_117 : decode cX14_both 117 = .ok (.iload_n 2, 1) := by decide +kernel
theorem dX14_both_118 : decode cX14_both 118 = .ok (.idiv, 1) := by decide +kernel
theorem dX14_both_119 : decode cX14_both 119 = .ok (.ireturn, 1) := by decide +kernel
theorem dX14_both_120 : decode cX14_both 120 = .ok (.iload_n 1, 1) := by decide +kernel
theorem dX14_both_121 : decode cX14_both 121 = .ok (.iload_n 2, 1) := by decide +kernel
theorem dX14_both_122 : decode cX14_both 122 = .ok (.invokestatic 70, 3) := by decide +kernel
theorem dX14_both_125 : decode cX14_both 125 = .ok (.ireturn, 1) := by decide +kernel
theorem dX14_both_126 : decode cX14_both 126 = .ok (.iload_n 1, 1) := by decide +kernel
theorem dX14_both_127 : decode cX14_both 127 = .ok (.iload_n 2, 1) := by decide +kernel
theorem dX14_both_128 : decode cX14_both 128 = .ok (.invokestatic 76, 3) := by decide +kernel
theorem dX14_both_131 : decode cX14_both 131 = .ok (.ireturn, 1) := by decide +kernel
theorem dX14_both_132 : decode cX14_both 132 = .ok (.iload_n 1, 1) := by decide +kernel
theorem dX14_both_133 : decode cX14_both 133 = .ok (.iload_n 2, 1) := by decide +kernel
theorem dX14_both_134 : decode cX14_both 134 = .ok (.if_icmp .ge 7, 3) := by decide +kernel
theorem dX14_both_137 : decode cX14_both 137 = .ok (.iconst 1, 1) := by decide +kernel
theorem dX14_both_138 : decode cX14_both 138 = .ok (.goto 4, 3) := by decide +kernel
theorem dX14_both_141 : decode cX14_both 141 = .ok (.iconst 0, 1) := by decide +kernel
theorem dX14_both_142 : decode cX14_both 142 = .ok (.ireturn, 1) := by decide +kernel
theorem dX14_both_143 : decode cX14_both 143 = .ok (.iload_n 1, 1) := by decide +kernel
theorem dX14_both_144 : decode cX14_both 144 = .ok (.iload_n 2, 1) := by decide +kernel
theorem dX14_both_145 : decode cX14_both 145 = .ok (.if_icmp .le 7, 3) := by decide +kernel
theorem dX14_both_148 : decode cX14_both 148 = .ok (.iconst 1, 1) := by decide +kernel
theorem dX14_both_149 : decode cX14_both 149 = .ok (.goto 4, 3) := by decide +kernel
theorem dX14_both_152 : decode cX14_both 152 = .ok (.iconst 0, 1) := by decide +kernel
theorem dX14_both_153 : decode cX14_both 153 = .ok (.ireturn, 1) := by decide +kernel
theorem dX14_both_154 : decode cX14_both 154 = .ok (.iload_n 1, 1) := by decide +kernel
theorem dX14_both_155 : decode cX14_both 155 = .ok (.iload_n 2, 1) := by decide +kernel
theorem dX14_both_156 : decode cX14_both 156 = .ok (.if_icmp .ne 7, 3) := by decide +kernel
theorem dX14_both_159 : decode cX14_both 159 = .ok (.iconst 1, 1) := by decide +kernel
theorem dX14_both_160 : decode cX14_both 160 = .ok (.goto 4, 3) := by decide +kernel
theorem dX14_both_163 : decode cX14_both 163 = .ok (.iconst 0, 1) := by decide +kernel
theorem dX14_both_164 : decode cX14_both 164 = .ok (.ireturn, 1) := by decide +kernel
theorem dX14_both_165 : decode cX14_both 165 = .ok (.iload_n 1, 1) := by decide +kernel
theorem dX14_both_166 : decode cX14_both 166 = .ok (.iload_n 2, 1) := by decide +kernel
theorem dX14_both_167 : decode cX14_both 167 = .ok (.if_icmp .gt 7, 3) := by decide +kernel
theorem dX14_both_170 : decode cX14_both 170 = .ok (.iconst 1, 1) := by decide +kernel
theorem dX14_both_171 : decode cX14_both 171 = .ok (.goto 4, 3) := by decide +kernel
theorem dX14_both_174 : decode cX14_both 174 = .ok (.iconst 0, 1) := by decide +kernel
theorem dX14_both_175 : decode cX14_both 175 = .ok (.ireturn, 1) := by decide +kernel
theorem dX14_both_176 : decode cX14_both 176 = .ok (.iload_n 1, 1) := by decide +kernel
theorem dX14_both_177 : decode cX14_both 177 = .ok (.iload_n 2, 1) := by decide +kernel
theorem dX14_both_178 : decode cX14_both 178 = .ok (.if_icmp .lt 7, 3) := by decide +kernel
theorem dX14_both_181 : decode cX14_both 181 = .ok (.iconst 1, 1) := by decide +kernel
theorem dX14_both_182 : decode cX14_both 182 = .ok (.goto 4, 3) := by decide +kernel
theorem dX14_both_185 : decode cX14_both 185 = .ok (.iconst 0, 1) := by decide +kernel
theorem dX14_both_186 : decode cX14_both 186 = .ok (.ireturn, 1) := by decide +kernel
theorem dX14_both_187 : decode cX14_both 187 = .ok (.iload_n 1, 1) := by decide +kernel
theorem dX14_both_188 : decode cX14_both 188 = .ok (.iload_n 2, 1) := by decide +kernel
theorem dX14_both_189 : decode cX14_both 189 = .ok (.iand, 1) := by decide +kernel
theorem dX14_both_190 : decode cX14_both 190 = .ok (.ireturn, 1) := by decide +kernel
theorem dX14_both_191 : decode cX14_both 191 = .ok (.iload_n 1, 1) := by decide +kernel
theorem dX14_both_192 : decode cX14_both 192 = .ok (.iload_n 2, 1) := by decide +kernel
theorem dX14_both_193 : decode cX14_both 193 = .ok (.ior, 1) := by decide +kernel
theorem dX14_both_194 : decode cX14_both 194 = .ok (.ireturn, 1) := by decide +kernel
theorem k_X14_both_m70 : Cond.methodLink RX14 70 Lib.Math.min.name ∈ wsX14_both := by decide +kernel
theorem k_X14_both_mmins : Cond.static Lib.Math.min.name ∈ wsX14_both := by decide +kernel
theorem k_X14_both_mi : Cond.initialized "java/lang/Math" ∈ wsX14_both := by decide +kernel
theorem k_X14_both_mminc : Cond.code Lib.Math.min.name Lib.Math.min.code 2 (some .int) ∈ wsX14_both := by decide +kernel
theorem k_X14_both_m76 : Cond.methodLink RX14 76 Lib.Math.max.name ∈ wsX14_both := by decide +kernel
theorem k_X14_both_mmaxs : Cond.static Lib.Math.max.name ∈ wsX14_both := by decide +kernel
theorem k_X14_both_mmaxc : Cond.code Lib.Math.max.name Lib.Math.max.code 2 (some .int) ∈ wsX14_both := by decide +kernel
abbrev rX14_both : Room := { frames := 1, cells := 0, slots := 0, locals := 13 }
noncomputable def b_X14_both_191 (M : gMem) (x1 : Int32) (x2 : Int32) : Option (Int32 × gMem) :=
  some ((x1 ||| x2), M)
noncomputable def b_X14_both_186 (M : gMem) (s0 : Int32) : Option (Int32 × gMem) :=
  some (s0, M)
noncomputable def b_X14_both_175 (M : gMem) (s0 : Int32) : Option (Int32 × gMem) :=
  some (s0, M)
noncomputable def b_X14_both_164 (M : gMem) (s0 : Int32) : Option (Int32 × gMem) :=
  some (s0, M)
noncomputable def b_X14_both_153 (M : gMem) (s0 : Int32) : Option (Int32 × gMem) :=
  some (s0, M)
noncomputable def b_X14_both_142 (M : gMem) (s0 : Int32) : Option (Int32 × gMem) :=
  some (s0, M)
noncomputable def b_X14_both_119 (M : gMem) (s0 : Int32) : Option (Int32 × gMem) :=
  some (s0, M)
noncomputable def b_X14_both_0 (M : gMem) (x0 : Int32) (x1 : Int32) (x2 : Int32) : Option (Int32 × gMem) :=
  (if x0 = (21 : Int32) then some ((x1 &&& x2), M) else (if x0 = (22 : Int32) then b_X14_both_191 M x1 x2 else (if x0 = (23 : Int32) then some ((imin x1 x2), M) else (if x0 = (24 : Int32) then some ((imax x1 x2), M) else (if x0 = (25 : Int32) then b_X14_both_191 M x1 x2 else (if x0 = (26 : Int32) then b_X14_both_191 M x1 x2 else (if x0 = (27 : Int32) then b_X14_both_191 M x1 x2 else (if x0 = (28 : Int32) then b_X14_both_191 M x1 x2 else (if x0 = (29 : Int32) then b_X14_both_191 M x1 x2 else (if x0 = (30 : Int32) then b_X14_both_191 M x1 x2 else (if x0 = (31 : Int32) then b_X14_both_191 M x1 x2 else (if x0 = (32 : Int32) then some ((x1 + x2), M) else (if x0 = (33 : Int32) then some ((x1 - x2), M) else (if x0 = (34 : Int32) then some ((x1 * x2), M) else (if x0 = (35 : Int32) then (if x2 = 0 then b_X14_both_119 M ((0 : Int32)) else ck (¬ x2 = 0) <| b_X14_both_119 M ((x1 / x2))) else (if x0 = (36 : Int32) then (if x2 ≤ x1 then b_X14_both_142 M ((0 : Int32)) else b_X14_both_142 M ((1 : Int32))) else (if x0 = (37 : Int32) then (if x1 ≤ x2 then b_X14_both_153 M ((0 : Int32)) else b_X14_both_153 M ((1 : Int32))) else (if x0 = (38 : Int32) then (if x1 = x2 then b_X14_both_164 M ((1 : Int32)) else b_X14_both_164 M ((0 : Int32))) else (if x0 = (39 : Int32) then (if x2 < x1 then b_X14_both_175 M ((0 : Int32)) else b_X14_both_175 M ((1 : Int32))) else (if x0 = (40 : Int32) then (if x1 < x2 then b_X14_both_186 M ((0 : Int32)) else b_X14_both_186 M ((1 : Int32))) else b_X14_both_191 M x1 x2))))))))))))))))))))
noncomputable def f_X14_both (M : gMem) (x0 : Int32) (x1 : Int32) (x2 : Int32) : Option (Int32 × gMem) :=
  b_X14_both_0 M x0 x1 x2
set_option maxHeartbeats 4000000 in
set_option maxRecDepth 100000 in
theorem t_X14_both_191 (X : gX p s m args meth c D cy B (gSt Z B H0) RX14 cX14_both wsX14_both 3) (hr : meth.sig.returnType = (some .int)) {Q : State → Prop} : ∀ (M : gMem) (x1 : Int32) (x2 : Int32) (z : Int32 × gMem), b_X14_both_191 M x1 x2 = some z → (fun (r : Int32 × gMem) => Q = gMQ below D cy B H0 args s 0 0 (some (vI r.1)) r.2) z → gGo p l e rX14_both s m args below meth c D cy B H0 3 0 0 Q 191 [(1, vI x1), (2, vI x2)] [] M := by
  intro M x1 x2 z hf hK
  unfold b_X14_both_191 at hf
  refine g_iload_n X dX14_both_191 rfl rfl ?_
  refine g_iload_n X dX14_both_192 rfl rfl ?_
  refine g_ior X dX14_both_193 ?_
  cases hf
  refine g_eqQ hK ?_
  exact g_iret X hr dX14_both_194
set_option maxHeartbeats 4000000 in
set_option maxRecDepth 100000 in
theorem t_X14_both_186 (X : gX p s m args meth c D cy B (gSt Z B H0) RX14 cX14_both wsX14_both 3) (hr : meth.sig.returnType = (some .int)) {Q : State → Prop} : ∀ (M : gMem) (s0 : Int32) (z : Int32 × gMem), b_X14_both_186 M s0 = some z → (fun (r : Int32 × gMem) => Q = gMQ below D cy B H0 args s 0 0 (some (vI r.1)) r.2) z → gGo p l e rX14_both s m args below meth c D cy B H0 3 0 0 Q 186 [] [vI s0] M := by
  intro M s0 z hf hK
  unfold b_X14_both_186 at hf
  cases hf
  refine g_eqQ hK ?_
  exact g_iret X hr dX14_both_186
set_option maxHeartbeats 4000000 in
set_option maxRecDepth 100000 in
theorem t_X14_both_175 (X : gX p s m args meth c D cy B (gSt Z B H0) RX14 cX14_both wsX14_both 3) (hr : meth.sig.returnType = (some .int)) {Q : State → Prop} : ∀ (M : gMem) (s0 : Int32) (z : Int32 × gMem), b_X14_both_175 M s0 = some z → (fun (r : Int32 × gMem) => Q = gMQ below D cy B H0 args s 0 0 (some (vI r.1)) r.2) z → gGo p l e rX14_both s m args below meth c D cy B H0 3 0 0 Q 175 [] [vI s0] M := by
  intro M s0 z hf hK
  unfold b_X14_both_175 at hf
  cases hf
  refine g_eqQ hK ?_
  exact g_iret X hr dX14_both_175
set_option maxHeartbeats 4000000 in
set_option maxRecDepth 100000 in
theorem t_X14_both_164 (X : gX p s m args meth c D cy B (gSt Z B H0) RX14 cX14_both wsX14_both 3) (hr : meth.sig.returnType = (some .int)) {Q : State → Prop} : ∀ (M : gMem) (s0 : Int32) (z : Int32 × gMem), b_X14_both_164 M s0 = some z → (fun (r : Int32 × gMem) => Q = gMQ below D cy B H0 args s 0 0 (some (vI r.1)) r.2) z → gGo p l e rX14_both s m args below meth c D cy B H0 3 0 0 Q 164 [] [vI s0] M := by
  intro M s0 z hf hK
  unfold b_X14_both_164 at hf
  cases hf
  refine g_eqQ hK ?_
  exact g_iret X hr dX14_both_164
set_option maxHeartbeats 4000000 in
set_option maxRecDepth 100000 in
theorem t_X14_both_153 (X : gX p s m args meth c D cy B (gSt Z B H0) RX14 cX14_both wsX14_both 3) (hr : meth.sig.returnType = (some .int)) {Q : State → Prop} : ∀ (M : gMem) (s0 : Int32) (z : Int32 × gMem), b_X14_both_153 M s0 = some z → (fun (r : Int32 × gMem) => Q = gMQ below D cy B H0 args s 0 0 (some (vI r.1)) r.2) z → gGo p l e rX14_both s m args below meth c D cy B H0 3 0 0 Q 153 [] [vI s0] M := by
  intro M s0 z hf hK
  unfold b_X14_both_153 at hf
  cases hf
  refine g_eqQ hK ?_
  exact g_iret X hr dX14_both_153
set_option maxHeartbeats 4000000 in
set_option maxRecDepth 100000 in
theorem t_X14_both_142 (X : gX p s m args meth c D cy B (gSt Z B H0) RX14 cX14_both wsX14_both 3) (hr : meth.sig.returnType = (some .int)) {Q : State → Prop} : ∀ (M : gMem) (s0 : Int32) (z : Int32 × gMem), b_X14_both_142 M s0 = some z → (fun (r : Int32 × gMem) => Q = gMQ below D cy B H0 args s 0 0 (some (vI r.1)) r.2) z → gGo p l e rX14_both s m args below meth c D cy B H0 3 0 0 Q 142 [] [vI s0] M := by
  intro M s0 z hf hK
  unfold b_X14_both_142 at hf
  cases hf
  refine g_eqQ hK ?_
  exact g_iret X hr dX14_both_142
set_option maxHeartbeats 4000000 in
set_option maxRecDepth 100000 in
theorem t_X14_both_119 (X : gX p s m args meth c D cy B (gSt Z B H0) RX14 cX14_both wsX14_both 3) (hr : meth.sig.returnType = (some .int)) {Q : State → Prop} : ∀ (M : gMem) (s0 : Int32) (z : Int32 × gMem), b_X14_both_119 M s0 = some z → (fun (r : Int32 × gMem) => Q = gMQ below D cy B H0 args s 0 0 (some (vI r.1)) r.2) z → gGo p l e rX14_both s m args below meth c D cy B H0 3 0 0 Q 119 [] [vI s0] M := by
  intro M s0 z hf hK
  unfold b_X14_both_119 at hf
  cases hf
  refine g_eqQ hK ?_
  exact g_iret X hr dX14_both_119
set_option maxHeartbeats 4000000 in
set_option maxRecDepth 100000 in
theorem t_X14_both_0 (X : gX p s m args meth c D cy B (gSt Z B H0) RX14 cX14_both wsX14_both 3) (hr : meth.sig.returnType = (some .int)) {Q : State → Prop} : ∀ (M : gMem) (x0 : Int32) (x1 : Int32) (x2 : Int32) (z : Int32 × gMem), b_X14_both_0 M x0 x1 x2 = some z → (fun (r : Int32 × gMem) => Q = gMQ below D cy B H0 args s 0 0 (some (vI r.1)) r.2) z → gGo p l e rX14_both s m args below meth c D cy B H0 3 0 0 Q 0 [(0, vI x0), (1, vI x1), (2, vI x2)] [] M := by
  intro M x0 x1 x2 z hf hK
  unfold b_X14_both_0 at hf
  refine g_iload_n X dX14_both_0 rfl rfl ?_
  by_cases hs1 : x0 = (21 : Int32)
  · have hf := ife_t hs1 hf
    refine g_tabin (tgt := 187) X dX14_both_1 hs1 (by decide) (by decide) rfl (by decide) ?_
    refine g_iload_n X dX14_both_187 rfl rfl ?_
    refine g_iload_n X dX14_both_188 rfl rfl ?_
    refine g_iand X dX14_both_189 ?_
    cases hf
    refine g_eqQ hK ?_
    exact g_iret X hr dX14_both_190
  · have hf := ife_f hs1 hf
    by_cases hs2 : x0 = (22 : Int32)
    · have hf := ife_t hs2 hf
      refine g_tabin (tgt := 191) X dX14_both_1 hs2 (by decide) (by decide) rfl (by decide) ?_
      refine g_sub (lvsub_of _ _ [1, 2] rfl) ?_
      exact t_X14_both_191 X hr _ _ _ _ hf hK
    · have hf := ife_f hs2 hf
      by_cases hs3 : x0 = (23 : Int32)
      · have hf := ife_t hs3 hf
        refine g_tabin (tgt := 120) X dX14_both_1 hs3 (by decide) (by decide) rfl (by decide) ?_
        refine g_iload_n X dX14_both_120 rfl rfl ?_
        refine g_iload_n X dX14_both_121 rfl rfl ?_
        refine g_min X k_X14_both_m70 k_X14_both_mmins k_X14_both_mi k_X14_both_mminc (Nat.le_of_ble_eq_true rfl) (Nat.le_of_ble_eq_true rfl) ⟨by decide, by decide⟩ dX14_both_122 ?_
        cases hf
        refine g_eqQ hK ?_
        exact g_iret X hr dX14_both_125
      · have hf := ife_f hs3 hf
        by_cases hs4 : x0 = (24 : Int32)
        · have hf := ife_t hs4 hf
          refine g_tabin (tgt := 126) X dX14_both_1 hs4 (by decide) (by decide) rfl (by decide) ?_
          refine g_iload_n X dX14_both_126 rfl rfl ?_
          refine g_iload_n X dX14_both_127 rfl rfl ?_
          refine g_max X k_X14_both_m76 k_X14_both_mmaxs k_X14_both_mi k_X14_both_mmaxc (Nat.le_of_ble_eq_true rfl) (Nat.le_of_ble_eq_true rfl) ⟨by decide, by decide⟩ dX14_both_128 ?_
          cases hf
          refine g_eqQ hK ?_
          exact g_iret X hr dX14_both_131
        · have hf := ife_f hs4 hf
          by_cases hs5 : x0 = (25 : Int32)
          · have hf := ife_t hs5 hf
            refine g_tabin (tgt := 191) X dX14_both_1 hs5 (by decide) (by decide) rfl (by decide) ?_
            refine g_sub (lvsub_of _ _ [1, 2] rfl) ?_
            exact t_X14_both_191 X hr _ _ _ _ hf hK
          · have hf := ife_f hs5 hf
            by_cases hs6 : x0 = (26 : Int32)
            · have hf := ife_t hs6 hf
              refine g_tabin (tgt := 191) X dX14_both_1 hs6 (by decide) (by decide) rfl (by decide) ?_
              refine g_sub (lvsub_of _ _ [1, 2] rfl) ?_
              exact t_X14_both_191 X hr _ _ _ _ hf hK
            · have hf := ife_f hs6 hf
              by_cases hs7 : x0 = (27 : Int32)
              · have hf := ife_t hs7 hf
                refine g_tabin (tgt := 191) X dX14_both_1 hs7 (by decide) (by decide) rfl (by decide) ?_
                refine g_sub (lvsub_of _ _ [1, 2] rfl) ?_
                exact t_X14_both_191 X hr _ _ _ _ hf hK
              · have hf := ife_f hs7 hf
                by_cases hs8 : x0 = (28 : Int32)
                · have hf := ife_t hs8 hf
                  refine g_tabin (tgt := 191) X dX14_both_1 hs8 (by decide) (by decide) rfl (by decide) ?_
                  refine g_sub (lvsub_of _ _ [1, 2] rfl) ?_
                  exact t_X14_both_191 X hr _ _ _ _ hf hK
                · have hf := ife_f hs8 hf
                  by_cases hs9 : x0 = (29 : Int32)
                  · have hf := ife_t hs9 hf
                    refine g_tabin (tgt := 191) X dX14_both_1 hs9 (by decide) (by decide) rfl (by decide) ?_
                    refine g_sub (lvsub_of _ _ [1, 2] rfl) ?_
                    exact t_X14_both_191 X hr _ _ _ _ hf hK
                  · have hf := ife_f hs9 hf
                    by_cases hs10 : x0 = (30 : Int32)
                    · have hf := ife_t hs10 hf
                      refine g_tabin (tgt := 191) X dX14_both_1 hs10 (by decide) (by decide) rfl (by decide) ?_
                      refine g_sub (lvsub_of _ _ [1, 2] rfl) ?_
                      exact t_X14_both_191 X hr _ _ _ _ hf hK
                    · have hf := ife_f hs10 hf
                      by_cases hs11 : x0 = (31 : Int32)
                      · have hf := ife_t hs11 hf
                        refine g_tabin (tgt := 191) X dX14_both_1 hs11 (by decide) (by decide) rfl (by decide) ?_
                        refine g_sub (lvsub_of _ _ [1, 2] rfl) ?_
                        exact t_X14_both_191 X hr _ _ _ _ hf hK
                      · have hf := ife_f hs11 hf
                        by_cases hs12 : x0 = (32 : Int32)
                        · have hf := ife_t hs12 hf
                          refine g_tabin (tgt := 96) X dX14_both_1 hs12 (by decide) (by decide) rfl (by decide) ?_
                          refine g_iload_n X dX14_both_96 rfl rfl ?_
                          refine g_iload_n X dX14_both_97 rfl rfl ?_
                          refine g_iadd X dX14_both_98 ?_
                          cases hf
                          refine g_eqQ hK ?_
                          exact g_iret X hr dX14_both_99
                        · have hf := ife_f hs12 hf
                          by_cases hs13 : x0 = (33 : Int32)
                          · have hf := ife_t hs13 hf
                            refine g_tabin (tgt := 100) X dX14_both_1 hs13 (by decide) (by decide) rfl (by decide) ?_
                            refine g_iload_n X dX14_both_100 rfl rfl ?_
                            refine g_iload_n X dX14_both_101 rfl rfl ?_
                            refine g_isub X dX14_both_102 ?_
                            cases hf
                            refine g_eqQ hK ?_
                            exact g_iret X hr dX14_both_103
                          · have hf := ife_f hs13 hf
                            by_cases hs14 : x0 = (34 : Int32)
                            · have hf := ife_t hs14 hf
                              refine g_tabin (tgt := 104) X dX14_both_1 hs14 (by decide) (by decide) rfl (by decide) ?_
                              refine g_iload_n X dX14_both_104 rfl rfl ?_
                              refine g_iload_n X dX14_both_105 rfl rfl ?_
                              refine g_imul X dX14_both_106 ?_
                              cases hf
                              refine g_eqQ hK ?_
                              exact g_iret X hr dX14_both_107
                            · have hf := ife_f hs14 hf
                              by_cases hs15 : x0 = (35 : Int32)
                              · have hf := ife_t hs15 hf
                                refine g_tabin (tgt := 108) X dX14_both_1 hs15 (by decide) (by decide) rfl (by decide) ?_
                                refine g_iload_n X dX14_both_108 rfl rfl ?_
                                refine g_if_ne (tgt := 116) X dX14_both_109 (by decide) (fun hc => ?_) (fun hc => ?_)
                                · have hf := ife_f hc hf
                                  refine g_iload_n X dX14_both_116 rfl rfl ?_
                                  refine g_iload_n X dX14_both_117 rfl rfl ?_
                                  obtain ⟨hg16, hf⟩ := ck_e hf
                                  refine g_idiv X dX14_both_118 hg16 ?_
                                  refine g_sub (lvsub_of _ _ [] rfl) ?_
                                  exact t_X14_both_119 X hr _ _ _ hf hK
                                · have hf := ife_t hc hf
                                  refine g_iconst (v := (0 : Int32)) X dX14_both_112 (by decide) ?_
                                  refine g_goto (tgt := 119) X dX14_both_113 (by decide) ?_
                                  refine g_sub (lvsub_of _ _ [] rfl) ?_
                                  exact t_X14_both_119 X hr _ _ _ hf hK
                              · have hf := ife_f hs15 hf
                                by_cases hs17 : x0 = (36 : Int32)
                                · have hf := ife_t hs17 hf
                                  refine g_tabin (tgt := 132) X dX14_both_1 hs17 (by decide) (by decide) rfl (by decide) ?_
                                  refine g_iload_n X dX14_both_132 rfl rfl ?_
                                  refine g_iload_n X dX14_both_133 rfl rfl ?_
                                  refine g_icmp_ge (tgt := 141) X dX14_both_134 (by decide) (fun hc => ?_) (fun hc => ?_)
                                  · have hf := ife_t hc hf
                                    refine g_iconst (v := (0 : Int32)) X dX14_both_141 (by decide) ?_
                                    refine g_sub (lvsub_of _ _ [] rfl) ?_
                                    exact t_X14_both_142 X hr _ _ _ hf hK
                                  · have hf := ife_f hc hf
                                    refine g_iconst (v := (1 : Int32)) X dX14_both_137 (by decide) ?_
                                    refine g_goto (tgt := 142) X dX14_both_138 (by decide) ?_
                                    refine g_sub (lvsub_of _ _ [] rfl) ?_
                                    exact t_X14_both_142 X hr _ _ _ hf hK
                                · have hf := ife_f hs17 hf
                                  by_cases hs18 : x0 = (37 : Int32)
                                  · have hf := ife_t hs18 hf
                                    refine g_tabin (tgt := 143) X dX14_both_1 hs18 (by decide) (by decide) rfl (by decide) ?_
                                    refine g_iload_n X dX14_both_143 rfl rfl ?_
                                    refine g_iload_n X dX14_both_144 rfl rfl ?_
                                    refine g_icmp_le (tgt := 152) X dX14_both_145 (by decide) (fun hc => ?_) (fun hc => ?_)
                                    · have hf := ife_t hc hf
                                      refine g_iconst (v := (0 : Int32)) X dX14_both_152 (by decide) ?_
                                      refine g_sub (lvsub_of _ _ [] rfl) ?_
                                      exact t_X14_both_153 X hr _ _ _ hf hK
                                    · have hf := ife_f hc hf
                                      refine g_iconst (v := (1 : Int32)) X dX14_both_148 (by decide) ?_
                                      refine g_goto (tgt := 153) X dX14_both_149 (by decide) ?_
                                      refine g_sub (lvsub_of _ _ [] rfl) ?_
                                      exact t_X14_both_153 X hr _ _ _ hf hK
                                  · have hf := ife_f hs18 hf
                                    by_cases hs19 : x0 = (38 : Int32)
                                    · have hf := ife_t hs19 hf
                                      refine g_tabin (tgt := 154) X dX14_both_1 hs19 (by decide) (by decide) rfl (by decide) ?_
                                      refine g_iload_n X dX14_both_154 rfl rfl ?_
                                      refine g_iload_n X dX14_both_155 rfl rfl ?_
                                      refine g_icmp_ne (tgt := 163) X dX14_both_156 (by decide) (fun hc => ?_) (fun hc => ?_)
                                      · have hf := ife_f hc hf
                                        refine g_iconst (v := (0 : Int32)) X dX14_both_163 (by decide) ?_
                                        refine g_sub (lvsub_of _ _ [] rfl) ?_
                                        exact t_X14_both_164 X hr _ _ _ hf hK
                                      · have hf := ife_t hc hf
                                        refine g_iconst (v := (1 : Int32)) X dX14_both_159 (by decide) ?_
                                        refine g_goto (tgt := 164) X dX14_both_160 (by decide) ?_
                                        refine g_sub (lvsub_of _ _ [] rfl) ?_
                                        exact t_X14_both_164 X hr _ _ _ hf hK
                                    · have hf := ife_f hs19 hf
                                      by_cases hs20 : x0 = (39 : Int32)
                                      · have hf := ife_t hs20 hf
                                        refine g_tabin (tgt := 165) X dX14_both_1 hs20 (by decide) (by decide) rfl (by decide) ?_
                                        refine g_iload_n X dX14_both_165 rfl rfl ?_
                                        refine g_iload_n X dX14_both_166 rfl rfl ?_
                                        refine g_icmp_gt (tgt := 174) X dX14_both_167 (by decide) (fun hc => ?_) (fun hc => ?_)
                                        · have hf := ife_t hc hf
                                          refine g_iconst (v := (0 : Int32)) X dX14_both_174 (by decide) ?_
                                          refine g_sub (lvsub_of _ _ [] rfl) ?_
                                          exact t_X14_both_175 X hr _ _ _ hf hK
                                        · have hf := ife_f hc hf
                                          refine g_iconst (v := (1 : Int32)) X dX14_both_170 (by decide) ?_
                                          refine g_goto (tgt := 175) X dX14_both_171 (by decide) ?_
                                          refine g_sub (lvsub_of _ _ [] rfl) ?_
                                          exact t_X14_both_175 X hr _ _ _ hf hK
                                      · have hf := ife_f hs20 hf
                                        by_cases hs21 : x0 = (40 : Int32)
                                        · have hf := ife_t hs21 hf
                                          refine g_tabin (tgt := 176) X dX14_both_1 hs21 (by decide) (by decide) rfl (by decide) ?_
                                          refine g_iload_n X dX14_both_176 rfl rfl ?_
                                          refine g_iload_n X dX14_both_177 rfl rfl ?_
                                          refine g_icmp_lt (tgt := 185) X dX14_both_178 (by decide) (fun hc => ?_) (fun hc => ?_)
                                          · have hf := ife_t hc hf
                                            refine g_iconst (v := (0 : Int32)) X dX14_both_185 (by decide) ?_
                                            refine g_sub (lvsub_of _ _ [] rfl) ?_
                                            exact t_X14_both_186 X hr _ _ _ hf hK
                                          · have hf := ife_f hc hf
                                            refine g_iconst (v := (1 : Int32)) X dX14_both_181 (by decide) ?_
                                            refine g_goto (tgt := 186) X dX14_both_182 (by decide) ?_
                                            refine g_sub (lvsub_of _ _ [] rfl) ?_
                                            exact t_X14_both_186 X hr _ _ _ hf hK
                                        · have hf := ife_f hs21 hf
                                          refine g_tabout (tgt := 191) X dX14_both_1 (gtab_out 20 (21) (by decide) (by decide) (fun i hi => match i, hi with | 0, _ => fun e => hs1 (e.trans (by decide)) | 1, _ => fun e => hs2 (e.trans (by decide)) | 2, _ => fun e => hs3 (e.trans (by decide)) | 3, _ => fun e => hs4 (e.trans (by decide)) | 4, _ => fun e => hs5 (e.trans (by decide)) | 5, _ => fun e => hs6 (e.trans (by decide)) | 6, _ => fun e => hs7 (e.trans (by decide)) | 7, _ => fun e => hs8 (e.trans (by decide)) | 8, _ => fun e => hs9 (e.trans (by decide)) | 9, _ => fun e => hs10 (e.trans (by decide)) | 10, _ => fun e => hs11 (e.trans (by decide)) | 11, _ => fun e => hs12 (e.trans (by decide)) | 12, _ => fun e => hs13 (e.trans (by decide)) | 13, _ => fun e => hs14 (e.trans (by decide)) | 14, _ => fun e => hs15 (e.trans (by decide)) | 15, _ => fun e => hs17 (e.trans (by decide)) | 16, _ => fun e => hs18 (e.trans (by decide)) | 17, _ => fun e => hs19 (e.trans (by decide)) | 18, _ => fun e => hs20 (e.trans (by decide)) | 19, _ => fun e => hs21 (e.trans (by decide)) | i + 20, h => absurd h (by omega))) (by decide) ?_
                                          refine g_sub (lvsub_of _ _ [1, 2] rfl) ?_
                                          exact t_X14_both_191 X hr _ _ _ _ hf hK
set_option maxHeartbeats 4000000 in
set_option maxRecDepth 100000 in
theorem m_X14_both (l : Launch) {D : va_G} {cy : Nat → ClassId} {B : Nat} {H0 : Heap} {Z : Nat → Nat} {M M1 : gMem} {x0 : Int32} {x1 : Int32} {x2 : Int32} {r : Int32} (hf : f_X14_both M x0 x1 x2 = some (r, M1)) : Met l yX14_both wsX14_both rX14_both (va_Pc (List.map gv [vI x0, vI x1, vI x2]) (gPre D cy B H0 (gSt Z B H0) M)) (gQ D cy B H0 (some (vI r)) M1) 0 0 (gA B) := by
  refine Met.ofW (cc := cX14_both) (maxL := 3) (ret := (some .int)) (by decide) rfl ?_
  intro p e s m args below meth c s₁ Bd hml hv
  obtain ⟨rfl, hW, hKK, hFs⟩ := hv
  have X : gX p s m _ meth c D cy B (gSt Z B H0) RX14 cX14_both wsX14_both 3 := ⟨Bd.exec, Bd.bytes, atoms_spec (ws := wsX14_both) Bd.pre, findClass_of_methodNamed Bd.named, hml, hKK, by rw [hW.1]; exact hW.2.1, Bd.notSynchronized, hFs⟩
  have hr := Bd.returns
  have hl := lv_entry ([.int x0, .int x1, .int x2]) (n := 3) (Nat.le_of_ble_eq_true rfl)
  show W p l e rX14_both s m _ below meth c s.heap [] 0 0 _ (entryFrame m ([.int x0, .int x1, .int x2] : List Value).toArray 3)
  rw [lg_entry_eq]
  generalize (lg_sl ([.int x0, .int x1, .int x2]) ++ List.replicate (3 - (lg_sl ([.int x0, .int x1, .int x2])).length) Slot.unset).toArray = ls at hl ⊢
  have hl : lv_has ls 3 (List.map gq [(0, vI x0), (1, vI x1), (2, vI x2)]) := hl
  exact t_X14_both_0 X hr _ _ _ _ _ hf rfl s.heap [] ls hW va_S.rf (lv_has_sub hl (lvsub_of _ _ [0, 1, 2] rfl))
/-! ## TideLotsModel$State.carryOut(II)I -/
theorem dX12_carryOut_0 : decode cX12_carryOut 0 = .ok (.iconst (-1), 1) := by decide +kernel
theorem dX12_carryOut_1 : decode cX12_carryOut 1 = .ok (.istore_n 3, 1) := by decide +kernel
theorem dX12_carryOut_2 : decode cX12_carryOut 2 = .ok (.iload_n 1, 1) := by decide +kernel
theorem dX12_carryOut_3 : decode cX12_carryOut 3 = .ok (.istore 4, 2) := by decide +kernel
theorem dX12_carryOut_5 : decode cX12_carryOut 5 = .ok (.iload 4, 2) := by decide +kernel
theorem dX12_carryOut_7 : decode cX12_carryOut 7 = .ok (.iload_n 2, 1) := by decide +kernel
theorem dX12_carryOut_8 : decode cX12_carryOut 8 = .ok (.if_icmp .ge 163, 3) := by decide +kernel
theorem dX12_carryOut_11 : decode cX12_carryOut 11 = .ok (.aload_n 0, 1) := by decide +kernel
theorem dX12_carryOut_12 : decode cX12_carryOut 12 = .ok (.getfield 3, 3) := by decide +kernel
theorem dX12_carryOut_15 : decode cX12_carryOut 15 = .ok (.getfield 81, 3) := by decide +kernel
theorem dX12_carryOut_18 : decode cX12_carryOut 18 = .ok (.getfield 180, 3) := by decide +kernel
theorem dX12_carryOut_21 : decode cX12_carryOut 21 = .ok (.iload 4, 2) := by decide +kernel
theorem dX12_carryOut_23 : decode cX12_carryOut 23 = .ok (.iaload, 1) := by decide +kernel
theorem dX12_carryOut_24 : decode cX12_carryOut 24 = .ok (.istore 5, 2) := by decide +kernel
theorem dX12_carryOut_26 : decode cX12_carryOut 26 = .ok (.iinc 4 1, 3) := by decide +kernel
theorem dX12_carryOut_29 : decode cX12_carryOut 29 = .ok (.iload 5, 2) := by decide +kernel
theorem dX12_carryOut_31 : decode cX12_carryOut 31 = .ok (.invokestatic 183, 3) := by decide +kernel
theorem dX12_carryOut_34 : decode cX12_carryOut 34 = .ok (.ifCond .eq 58, 3) := by decide +kernel
theorem dX12_carryOut_37 : decode cX12_carryOut 37 = .ok (.iinc 3 1, 3) := by decide +kernel
theorem dX12_carryOut_40 : decode cX12_carryOut 40 = .ok (.aload_n 0, 1) := by decide +kernel
theorem dX12_carryOut_41 : decode cX12_carryOut 41 = .ok (.getfield 65, 3) := by decide +kernel
theorem dX12_carryOut_44 : decode cX12_carryOut 44 = .ok (.iload_n 3, 1) := by decide +kernel
theorem dX12_carryOut_45 : decode cX12_carryOut 45 = .ok (.iload 5, 2) := by decide +kernel
theorem dX12_carryOut_47 : decode cX12_carryOut 47 = .ok (.bipush 15, 2) := by decide +kernel
theorem dX12_carryOut_49 : decode cX12_carryOut 49 = .ok (.if_icmp .ne 10, 3) := by decide +kernel
theorem dX12_carryOut_52 : decode cX12_carryOut 52 = .ok (.aload_n 0, 1) := by decide +kernel
theorem dX12_carryOut_53 : decode cX12_carryOut 53 = .ok (.getfield 74, 3) := by decide +kernel
theorem dX12_carryOut_56 : decode cX12_carryOut 56 = .ok (.goto 22, 3) := by decide +kernel
theorem dX12_carryOut_59 : decode cX12_carryOut 59 = .ok (.aload_n 0, 1) := by decide +kernel
theorem dX12_carryOut_60 : decode cX12_carryOut 60 = .ok (.iload 5, 2) := by decide +kernel
theorem dX12_carryOut_62 : decode cX12_carryOut 62 = .ok (.aload_n 0, 1) := by decide +kernel
theorem dX12_carryOut_63 : decode cX12_carryOut 63 = .ok (.getfield 3, 3) := by decide +kernel
theorem dX12_carryOut_66 : decode cX12_carryOut 66 = .ok (.getfield 81, 3) := by decide +kernel
theorem dX12_carryOut_69 : decode cX12_carryOut 69 = .ok (.getfield 180, 3) := by decide +kernel
theorem dX12_carryOut_72 : decode cX12_carryOut 72 = .ok (.iload 4, 2) := by decide +kernel
theorem dX12_carryOut_74 : decode cX12_carryOut 74 = .ok (.iaload, 1) := by decide +kernel
theorem dX12_carryOut_75 : decode cX12_carryOut 75 = .ok (.invokevirtual 187, 3) := by decide +kernel
theorem dX12_carryOut_78 : decode cX12_carryOut 78 = .ok (.iastore, 1) := by decide +kernel
theorem dX12_carryOut_79 : decode cX12_carryOut 79 = .ok (.iload 5, 2) := by decide +kernel
theorem dX12_carryOut_81 : decode cX12_carryOut 81 = .ok (.bipush 15, 2) := by decide +kernel
theorem dX12_carryOut_83 : decode cX12_carryOut 83 = .ok (.if_icmp .eq (-78), 3) := by decide +kernel
theorem dX12_carryOut_86 : decode cX12_carryOut 86 = .ok (.iinc 4 1, 3) := by decide +kernel
theorem dX12_carryOut_89 : decode cX12_carryOut 89 = .ok (.goto (-84), 3) := by decide +kernel
theorem dX12_carryOut_92 : decode cX12_carryOut 92 = .ok (.iload 5, 2) := by decide +kernel
theorem dX12_carryOut_94 : decode cX12_carryOut 94 = .ok (.bipush 31, 2) := by decide +kernel
theorem dX12_carryOut_96 : decode cX12_carryOut 96 = .ok (.if_icmp .eq 10, 3) := by decide +kernel
theorem dX12_carryOut_99 : decode cX12_carryOut 99 = .ok (.iload 5, 2) := by decide +kernel
theorem dX12_carryOut_101 : decode cX12_carryOut 101 = .ok (.bipush 20, 2) := by decide +kernel
theorem dX12_carryOut_103 : decode cX12_carryOut 103 = .ok (.if_icmp .ne 37, 3) := by decide +kernel
theorem dX12_carryOut_106 : decode cX12_carryOut 106 = .ok (.aload_n 0, 1) := by decide +kernel
theorem dX12_carryOut_107 : decode cX12_carryOut 107 = .ok (.getfield 65, 3) := by decide +kernel
theorem dX12_carryOut_110 : decode cX12_carryOut 110 = .ok (.iload_n 3, 1) := by decide +kernel
theorem dX12_carryOut_111 : decode cX12_carryOut 111 = .ok (.iload 5, 2) := by decide +kernel
theorem dX12_carryOut_113 : decode cX12_carryOut 113 = .ok (.bipush 31, 2) := by decide +kernel
theorem dX12_carryOut_115 : decode cX12_carryOut 115 = .ok (.if_icmp .ne 13, 3) := by decide +kernel
theorem dX12_carryOut_118 : decode cX12_carryOut 118 = .ok (.aload_n 0, 1) := by decide +kernel
theorem dX12_carryOut_119 : decode cX12_carryOut 119 = .ok (.getfield 65, 3) := by decide +kernel
theorem dX12_carryOut_122 : decode cX12_carryOut 122 = .ok (.iload_n 3, 1) := by decide +kernel
theorem dX12_carryOut_123 : decode cX12_carryOut 123 = .ok (.iaload, 1) := by decide +kernel
theorem dX12_carryOut_124 : decode cX12_carryOut 124 = .ok (.ineg, 1) := by decide +kernel
theorem dX12_carryOut_125 : decode cX12_carryOut 125 = .ok (.goto 11, 3) := by decide +kernel
theorem dX12_carryOut_128 : decode cX12_carryOut 128 = .ok (.iconst 1, 1) := by decide +kernel
theorem dX12_carryOut_129 : decode cX12_carryOut 129 = .ok (.aload_n 0, 1) := by decide +kernel
theorem dX12_carryOut_130 : decode cX12_carryOut 130 = .ok (.getfield 65, 3) := by decide +kernel
theorem dX12_carryOut_133 : decode cX12_carryOut 133 = .ok (.iload_n 3, 1) := by decide +kernel
theorem dX12_carryOut_134 : decode cX12_carryOut 134 = .ok (.iaload, 1) := by decide +kernel
theorem dX12_carryOut_135 : decode cX12_carryOut 135 = .ok (.isub, 1) := by decide +kernel
theorem dX12_carryOut_136 : decode cX12_carryOut 136 = .ok (.iastore, 1) := by decide +kernel
theorem dX12_carryOut_137 : decode cX12_carryOut 137 = .ok (.goto (-132), 3) := by decide +kernel
theorem dX12_carryOut_140 : decode cX12_carryOut 140 = .ok (.iinc 3 (-1), 3) := by decide +kernel
theorem dX12_carryOut_143 : decode cX12_carryOut 143 = .ok (.aload_n 0, 1) := by decide +kernel
theorem dX12_carryOut_144 : decode cX12_carryOut 144 = .ok (.getfield 65, 3) := by decide +kernel
theorem dX12_carryOut_147 : decode cX12_carryOut 147 = .ok (.iload_n 3, 1) := by decide +kernel
theorem dX12_carryOut_148 : decode cX12_carryOut 148 = .ok (.iload 5, 2) := by decide +kernel
theorem dX12_carryOut_150 : decode cX12_carryOut 150 = .ok (.aload_n 0, 1) := by decide +kernel
theorem dX12_carryOut_151 : decode cX12_carryOut 151 = .ok (.getfield 65, 3) := by decide +kernel
theorem dX12_carryOut_154 : decode cX12_carryOut 154 = .ok (.iload_n 3, 1) := by decide +kernel
theorem dX12_carryOut_155 : decode cX12_carryOut 155 = .ok (.iaload, 1) := by decide +kernel
theorem dX12_carryOut_156 : decode cX12_carryOut 156 = .ok (.aload_n 0, 1) := by decide +kernel
theorem dX12_carryOut_157 : decode cX12_carryOut 157 = .ok (.getfield 65, 3) := by decide +kernel
theorem dX12_carryOut_160 : decode cX12_carryOut 160 = .ok (.iload_n 3, 1) := by decide +kernel
theorem dX12_carryOut_161 : decode cX12_carryOut 161 = .ok (.iconst 1, 1) := by decide +kernel
theorem dX12_carryOut_162 : decode cX12_carryOut 162 = .ok (.iadd, 1) := by decide +kernel
theorem dX12_carryOut_163 : decode cX12_carryOut 163 = .ok (.iaload, 1) := by decide +kernel
theorem dX12_carryOut_164 : decode cX12_carryOut 164 = .ok (.invokestatic 190, 3) := by decide +kernel
theorem dX12_carryOut_167 : decode cX12_carryOut 167 = .ok (.iastore, 1) := by decide +kernel
theorem dX12_carryOut_168 : decode cX12_carryOut 168 = .ok (.goto (-163), 3) := by decide +kernel
theorem dX12_carryOut_171 : decode cX12_carryOut 171 = .ok (.aload_n 0, 1) := by decide +kernel
theorem dX12_carryOut_172 : decode cX12_carryOut 172 = .ok (.getfield 65, 3) := by decide +kernel
theorem dX12_carryOut_175 : decode cX12_carryOut 175 = .ok (.iconst 0, 1) := by decide +kernel
theorem dX12_carryOut_176 : decode cX12_carryOut 176 = .ok (.iaload, 1) := by decide +kernel
theorem dX12_carryOut_177 : decode cX12_carryOut 177 = .ok (.ireturn, 1) := by decide +kernel
set_option maxRecDepth 20000 in
theorem ggX12_carryOut_X14_isPushed : GoodIn wsX12_carryOut wsX14_isPushed := goodIn_r _ [6, 7, 8, 5, 9] (by decide +kernel) (by decide +kernel)
set_option maxRecDepth 20000 in
theorem gX12_carryOut_X14_isPushed_n183 : GoodIn wsX12_carryOut (wsX14_isPushed) := ggX12_carryOut_X14_isPushed
set_option maxRecDepth 20000 in
theorem ggX12_carryOut_X14_both : GoodIn wsX12_carryOut wsX14_both := goodIn_r _ [26, 27, 28, 29, 30, 31, 32, 33] (by decide +kernel) (by decide +kernel)
set_option maxRecDepth 20000 in
theorem gX12_carryOut_X14_both_n190 : GoodIn wsX12_carryOut (wsX14_both) := ggX12_carryOut_X14_both
set_option maxRecDepth 20000 in
theorem ggX12_carryOut_X12_pushed : GoodIn wsX12_carryOut wsX12_pushed := goodIn_r _ [14, 15, 16, 17, 18, 19, 20, 21, 22, 13, 23, 24, 34, 35, 36, 37, 38, 39, 40, 41, 42, 43, 44, 45, 46, 47, 48, 49, 50, 51, 52] (by decide +kernel) (by decide +kernel)
set_option maxRecDepth 20000 in
theorem gX12_carryOut_X12_pushed : GoodIn wsX12_carryOut (wsV RX12 187 RX12 yX12_pushed wsX12_pushed) := goodIn_app (goodIn_of _ (by decide +kernel)) ggX12_carryOut_X12_pushed
theorem k_X12_carryOut_f65 : Cond.fieldLink RX12 65 "TideLotsModel$State" "stack" "[I" ∈ wsX12_carryOut := by decide +kernel
theorem i_X12_carryOut_X12 : ∀ w ∈ u_ws RX12 TX12 19, w ∈ wsX12_carryOut := by decide +kernel
theorem k_X12_carryOut_f3 : Cond.fieldLink RX12 3 "TideLotsModel$State" "this$0" "LTideLotsModel;" ∈ wsX12_carryOut := by decide +kernel
theorem i_X12_carryOut_X14 : ∀ w ∈ u_ws RX14 TX14 15, w ∈ wsX12_carryOut := by decide +kernel
theorem kn_X12_180 : Cond.fieldLinkNest "TideLotsModel$State" (180 : Nat) "TideLotsModel$Told" "code" "[I" "TideLotsModel" ∈ gNs := by decide +kernel
theorem i_X12_carryOut_X13 : ∀ w ∈ u_ws RX13 TX13 25, w ∈ wsX12_carryOut := by decide +kernel
theorem kn_X12_183 : Cond.methodLinkNest "TideLotsModel$State" (183 : Nat) ({ cls := "TideLotsModel", name := "isPushed", desc := "(I)Z" } : MethodName) "TideLotsModel" ∈ gNs := by decide +kernel
theorem k_X12_carryOut_iiX14 : Cond.initialized RX14 ∈ wsX12_carryOut := by decide +kernel
theorem k_X12_carryOut_smX14_isPushed : Cond.static yX14_isPushed ∈ wsX12_carryOut := by decide +kernel
theorem kn_X12_190 : Cond.methodLinkNest "TideLotsModel$State" (190 : Nat) ({ cls := "TideLotsModel", name := "both", desc := "(III)I" } : MethodName) "TideLotsModel" ∈ gNs := by decide +kernel
theorem k_X12_carryOut_smX14_both : Cond.static yX14_both ∈ wsX12_carryOut := by decide +kernel
theorem k_X12_carryOut_f74 : Cond.fieldLink RX12 74 "TideLotsModel$State" "tide" "I" ∈ wsX12_carryOut := by decide +kernel
abbrev rX12_carryOut : Room := { frames := 2, cells := 0, slots := 0, locals := 45 }
noncomputable def b_X12_carryOut_136 (M : gMem) (x0 : Nat) (x2 : Int32) (x3 : Int32) (x4 : Int32) (s0 : Option Nat) (s1 : Int32) (s2 : Int32) : Option ((gMem × Int32 × Int32) ⊕ (Int32 × gMem)) :=
  dr s0 fun a1 => ck (mT M a1 = 20) <| ck (inb s1 (mL M a1)) <| lw (wI M a1 s1.toNatClampNeg s2) fun M4 => some (.inl (M4, x3, x4))
noncomputable def b_X12_carryOut_106 (M : gMem) (x0 : Nat) (x2 : Int32) (x3 : Int32) (x4 : Int32) (x5 : Int32) : Option ((gMem × Int32 × Int32) ⊕ (Int32 × gMem)) :=
  ck (mT M x0 = 11) <| (if x5 = (31 : Int32) then dr ((mR M x0 17)) fun a10 => ck (mT M a10 = 20) <| ck (inb x3 (mL M a10)) <| b_X12_carryOut_136 M x0 x2 x3 x4 ((mR M x0 17)) x3 ((-(mI M a10 x3.toNatClampNeg))) else dr ((mR M x0 17)) fun a7 => ck (mT M a7 = 20) <| ck (inb x3 (mL M a7)) <| b_X12_carryOut_136 M x0 x2 x3 x4 ((mR M x0 17)) x3 (((1 : Int32) - (mI M a7 x3.toNatClampNeg))))
noncomputable def b_X12_carryOut_78 (M : gMem) (x0 : Nat) (x2 : Int32) (x3 : Int32) (x4 : Int32) (x5 : Int32) (s0 : Option Nat) (s1 : Int32) (s2 : Int32) : Option ((gMem × Int32 × Int32) ⊕ (Int32 × gMem)) :=
  dr s0 fun a13 => ck (mT M a13 = 20) <| ck (inb s1 (mL M a13)) <| lw (wI M a13 s1.toNatClampNeg s2) fun M16 => (if x5 = (15 : Int32) then some (.inl (M16, x3, x4)) else some (.inl (M16, x3, (x4 + (1 : Int32)))))
noncomputable def bb_X12_carryOut_5 (M : gMem) (x0 : Nat) (x2 : Int32) (x3 : Int32) (x4 : Int32) : Option ((gMem × Int32 × Int32) ⊕ (Int32 × gMem)) :=
  (if x2 ≤ x4 then ck (mT M x0 = 11) <| dr ((mR M x0 17)) fun a19 => ck (mT M a19 = 20) <| ck (inb (0 : Int32) (mL M a19)) <| oI (some ((mI M a19 ((0 : Int32)).toNatClampNeg), M)) else ck (mT M x0 = 11) <| dr ((mR M x0 18)) fun a24 => ck (mT M a24 = 13) <| dr ((mR M a24 11)) fun a26 => ck (mT M a26 = 12) <| dr ((mR M a26 21)) fun a28 => ck (mT M a28 = 20) <| ck (inb x4 (mL M a28)) <| bd (f_X14_isPushed M ((mI M a28 x4.toNatClampNeg))) fun r31 M31 => (if r31 = 0 then (if (mI M a28 x4.toNatClampNeg) = (31 : Int32) then b_X12_carryOut_106 M31 x0 x2 x3 ((x4 + (1 : Int32))) ((mI M a28 x4.toNatClampNeg)) else (if (mI M a28 x4.toNatClampNeg) = (20 : Int32) then b_X12_carryOut_106 M31 x0 x2 x3 ((x4 + (1 : Int32))) ((mI M a28 x4.toNatClampNeg)) else ck (mT M31 x0 = 11) <| dr ((mR M31 x0 17)) fun a33 => ck (mT M31 a33 = 20) <| ck (inb (x3 + (-1 : Int32)) (mL M31 a33)) <| ck (inb ((x3 + (-1 : Int32)) + (1 : Int32)) (mL M31 a33)) <| bd (f_X14_both M31 ((mI M a28 x4.toNatClampNeg)) ((mI M31 a33 ((x3 + (-1 : Int32))).toNatClampNeg)) ((mI M31 a33 (((x3 + (-1 : Int32)) + (1 : Int32))).toNatClampNeg))) fun r37 M37 => ck (mT M37 a33 = 20) <| ck (inb (x3 + (-1 : Int32)) (mL M37 a33)) <| lw (wI M37 a33 ((x3 + (-1 : Int32))).toNatClampNeg r37) fun M40 => some (.inl (M40, (x3 + (-1 : Int32)), (x4 + (1 : Int32)))))) else ck (mT M31 x0 = 11) <| (if (mI M a28 x4.toNatClampNeg) = (15 : Int32) then b_X12_carryOut_78 M31 x0 x2 ((x3 + (1 : Int32))) ((x4 + (1 : Int32))) ((mI M a28 x4.toNatClampNeg)) ((mR M31 x0 17)) ((x3 + (1 : Int32))) ((mI M31 x0 0)) else dr ((mR M31 x0 18)) fun a43 => ck (mT M31 a43 = 13) <| dr ((mR M31 a43 11)) fun a45 => ck (mT M31 a45 = 12) <| dr ((mR M31 a45 21)) fun a47 => ck (mT M31 a47 = 20) <| ck (inb (x4 + (1 : Int32)) (mL M31 a47)) <| bd (f_X12_pushed M31 x0 ((mI M a28 x4.toNatClampNeg)) ((mI M31 a47 ((x4 + (1 : Int32))).toNatClampNeg))) fun r50 M50 => b_X12_carryOut_78 M50 x0 x2 ((x3 + (1 : Int32))) ((x4 + (1 : Int32))) ((mI M a28 x4.toNatClampNeg)) ((mR M31 x0 17)) ((x3 + (1 : Int32))) r50)))
noncomputable def lp_X12_carryOut_5 (M : gMem) (x0 : Nat) (x2 : Int32) (x3 : Int32) (x4 : Int32) : Option (Int32 × gMem) :=
  lp (fun (q : gMem × Int32 × Int32) => bb_X12_carryOut_5 q.1 x0 x2 q.2.1 q.2.2) (M, x3, x4)
noncomputable def b_X12_carryOut_0 (M : gMem) (x0 : Nat) (x1 : Int32) (x2 : Int32) : Option (Int32 × gMem) :=
  lp_X12_carryOut_5 M x0 x2 ((-1 : Int32)) x1
noncomputable def f_X12_carryOut (M : gMem) (x0 : Nat) (x1 : Int32) (x2 : Int32) : Option (Int32 × gMem) :=
  b_X12_carryOut_0 M x0 x1 x2
set_option maxHeartbeats 4000000 in
set_option maxRecDepth 100000 in
theorem t_X12_carryOut_136 (X : gX p s m args meth c D cy B (gSt Z B H0) RX12 cX12_carryOut wsX12_carryOut 6) (hr : meth.sig.returnType = (some .int)) {Q : State → Prop} : ∀ (M : gMem) (x0 : Nat) (x2 : Int32) (x3 : Int32) (x4 : Int32) (s0 : Option Nat) (s1 : Int32) (s2 : Int32) (z : (gMem × Int32 × Int32) ⊕ (Int32 × gMem)), b_X12_carryOut_136 M x0 x2 x3 x4 s0 s1 s2 = some z → (Sum.elim (fun (q : gMem × Int32 × Int32) => gGo p l e rX12_carryOut s m args below meth c D cy B H0 6 0 0 Q 5 [(0, vR (some x0)), (2, vI x2), (3, vI q.2.1), (4, vI q.2.2)] [] q.1) (fun (r : Int32 × gMem) => Q = gMQ below D cy B H0 args s 0 0 (some (vI r.1)) r.2)) z → gGo p l e rX12_carryOut s m args below meth c D cy B H0 6 0 0 Q 136 [(0, vR (some x0)), (2, vI x2), (3, vI x3), (4, vI x4)] [vI s2, vI s1, vR s0] M := by
  intro M x0 x2 x3 x4 s0 s1 s2 z hf hK
  unfold b_X12_carryOut_136 at hf
  obtain ⟨a1, ha1, hf⟩ := dr_e hf
  obtain ⟨hT2, hf⟩ := ck_e hf
  obtain ⟨hg3, hf⟩ := ck_e hf
  refine g_iast X dX12_carryOut_136 ha1 hT2 hg3 ?_
  obtain ⟨M4, hM4, hf⟩ := lw_e hf
  rw [← hM4]
  have hT5 : mT M4 a1 = 20 := by rw [hM4]; exact hT2
  refine g_goto (tgt := 5) X dX12_carryOut_137 (by decide) ?_
  cases hf
  refine g_sub (lvsub_of _ _ [0, 1, 2, 3] rfl) ?_
  exact hK
set_option maxHeartbeats 4000000 in
set_option maxRecDepth 100000 in
theorem t_X12_carryOut_106 (X : gX p s m args meth c D cy B (gSt Z B H0) RX12 cX12_carryOut wsX12_carryOut 6) (hr : meth.sig.returnType = (some .int)) {Q : State → Prop} : ∀ (M : gMem) (x0 : Nat) (x2 : Int32) (x3 : Int32) (x4 : Int32) (x5 : Int32) (z : (gMem × Int32 × Int32) ⊕ (Int32 × gMem)), b_X12_carryOut_106 M x0 x2 x3 x4 x5 = some z → (Sum.elim (fun (q : gMem × Int32 × Int32) => gGo p l e rX12_carryOut s m args below meth c D cy B H0 6 0 0 Q 5 [(0, vR (some x0)), (2, vI x2), (3, vI q.2.1), (4, vI q.2.2)] [] q.1) (fun (r : Int32 × gMem) => Q = gMQ below D cy B H0 args s 0 0 (some (vI r.1)) r.2)) z → gGo p l e rX12_carryOut s m args below meth c D cy B H0 6 0 0 Q 106 [(0, vR (some x0)), (2, vI x2), (3, vI x3), (4, vI x4), (5, vI x5)] [] M := by
  intro M x0 x2 x3 x4 x5 z hf hK
  unfold b_X12_carryOut_106 at hf
  refine g_aload_n X dX12_carryOut_106 rfl rfl ?_
  obtain ⟨hT6, hf⟩ := ck_e hf
  refine g_get (ci := 10) (v := vR (mR M x0 17)) 17 X cdX12 i_X12_carryOut_X12 (by decide) k_X12_carryOut_f65 rfl dX12_carryOut_107 rfl hT6 rfl ?_
  refine g_iload_n X dX12_carryOut_110 rfl rfl ?_
  refine g_iload X dX12_carryOut_111 rfl ?_
  refine g_bipush (v := (31 : Int32)) X dX12_carryOut_113 (by decide) ?_
  refine g_icmp_ne (tgt := 128) X dX12_carryOut_115 (by decide) (fun hc => ?_) (fun hc => ?_)
  · have hf := ife_f hc hf
    refine g_iconst (v := (1 : Int32)) X dX12_carryOut_128 (by decide) ?_
    refine g_aload_n X dX12_carryOut_129 rfl rfl ?_
    refine g_get (ci := 10) (v := vR (mR M x0 17)) 17 X cdX12 i_X12_carryOut_X12 (by decide) k_X12_carryOut_f65 rfl dX12_carryOut_130 rfl hT6 rfl ?_
    refine g_iload_n X dX12_carryOut_133 rfl rfl ?_
    obtain ⟨a7, ha7, hf⟩ := dr_e hf
    obtain ⟨hT8, hf⟩ := ck_e hf
    obtain ⟨hg9, hf⟩ := ck_e hf
    refine g_iald X dX12_carryOut_134 ha7 hT8 hg9 ?_
    refine g_isub X dX12_carryOut_135 ?_
    refine g_sub (lvsub_of _ _ [0, 1, 2, 3] rfl) ?_
    exact t_X12_carryOut_136 X hr _ _ _ _ _ _ _ _ _ hf hK
  · have hf := ife_t hc hf
    refine g_aload_n X dX12_carryOut_118 rfl rfl ?_
    refine g_get (ci := 10) (v := vR (mR M x0 17)) 17 X cdX12 i_X12_carryOut_X12 (by decide) k_X12_carryOut_f65 rfl dX12_carryOut_119 rfl hT6 rfl ?_
    refine g_iload_n X dX12_carryOut_122 rfl rfl ?_
    obtain ⟨a10, ha10, hf⟩ := dr_e hf
    obtain ⟨hT11, hf⟩ := ck_e hf
    obtain ⟨hg12, hf⟩ := ck_e hf
    refine g_iald X dX12_carryOut_123 ha10 hT11 hg12 ?_
    refine g_ineg X dX12_carryOut_124 ?_
    refine g_goto (tgt := 136) X dX12_carryOut_125 (by decide) ?_
    refine g_sub (lvsub_of _ _ [0, 1, 2, 3] rfl) ?_
    exact t_X12_carryOut_136 X hr _ _ _ _ _ _ _ _ _ hf hK
set_option maxHeartbeats 4000000 in
set_option maxRecDepth 100000 in
theorem t_X12_carryOut_78 (X : gX p s m args meth c D cy B (gSt Z B H0) RX12 cX12_carryOut wsX12_carryOut 6) (hr : meth.sig.returnType = (some .int)) {Q : State → Prop} : ∀ (M : gMem) (x0 : Nat) (x2 : Int32) (x3 : Int32) (x4 : Int32) (x5 : Int32) (s0 : Option Nat) (s1 : Int32) (s2 : Int32) (z : (gMem × Int32 × Int32) ⊕ (Int32 × gMem)), b_X12_carryOut_78 M x0 x2 x3 x4 x5 s0 s1 s2 = some z → (Sum.elim (fun (q : gMem × Int32 × Int32) => gGo p l e rX12_carryOut s m args below meth c D cy B H0 6 0 0 Q 5 [(0, vR (some x0)), (2, vI x2), (3, vI q.2.1), (4, vI q.2.2)] [] q.1) (fun (r : Int32 × gMem) => Q = gMQ below D cy B H0 args s 0 0 (some (vI r.1)) r.2)) z → gGo p l e rX12_carryOut s m args below meth c D cy B H0 6 0 0 Q 78 [(0, vR (some x0)), (2, vI x2), (3, vI x3), (4, vI x4), (5, vI x5)] [vI s2, vI s1, vR s0] M := by
  intro M x0 x2 x3 x4 x5 s0 s1 s2 z hf hK
  unfold b_X12_carryOut_78 at hf
  obtain ⟨a13, ha13, hf⟩ := dr_e hf
  obtain ⟨hT14, hf⟩ := ck_e hf
  obtain ⟨hg15, hf⟩ := ck_e hf
  refine g_iast X dX12_carryOut_78 ha13 hT14 hg15 ?_
  obtain ⟨M16, hM16, hf⟩ := lw_e hf
  rw [← hM16]
  have hT17 : mT M16 a13 = 20 := by rw [hM16]; exact hT14
  refine g_iload X dX12_carryOut_79 rfl ?_
  refine g_bipush (v := (15 : Int32)) X dX12_carryOut_81 (by decide) ?_
  refine g_icmp_eq (tgt := 5) X dX12_carryOut_83 (by decide) (fun hc => ?_) (fun hc => ?_)
  · have hf := ife_t hc hf
    cases hf
    refine g_sub (lvsub_of _ _ [0, 1, 2, 3] rfl) ?_
    exact hK
  · have hf := ife_f hc hf
    refine g_iinc (v := (1 : Int32)) (lv' := [(4, vI (x4 + (1 : Int32))), (0, vR (some x0)), (2, vI x2), (3, vI x3), (5, vI x5)]) X dX12_carryOut_86 rfl (by decide) (by decide) rfl ?_
    refine g_goto (tgt := 5) X dX12_carryOut_89 (by decide) ?_
    cases hf
    refine g_sub (lvsub_of _ _ [1, 2, 3, 0] rfl) ?_
    exact hK
set_option maxHeartbeats 4000000 in
set_option maxRecDepth 100000 in
theorem tb_X12_carryOut_5 (X : gX p s m args meth c D cy B (gSt Z B H0) RX12 cX12_carryOut wsX12_carryOut 6) (hr : meth.sig.returnType = (some .int)) {Q : State → Prop} : ∀ (M : gMem) (x0 : Nat) (x2 : Int32) (x3 : Int32) (x4 : Int32) (z : (gMem × Int32 × Int32) ⊕ (Int32 × gMem)), bb_X12_carryOut_5 M x0 x2 x3 x4 = some z → (Sum.elim (fun (q : gMem × Int32 × Int32) => gGo p l e rX12_carryOut s m args below meth c D cy B H0 6 0 0 Q 5 [(0, vR (some x0)), (2, vI x2), (3, vI q.2.1), (4, vI q.2.2)] [] q.1) (fun (r : Int32 × gMem) => Q = gMQ below D cy B H0 args s 0 0 (some (vI r.1)) r.2)) z → gGo p l e rX12_carryOut s m args below meth c D cy B H0 6 0 0 Q 5 [(0, vR (some x0)), (2, vI x2), (3, vI x3), (4, vI x4)] [] M := by
  intro M x0 x2 x3 x4 z hf hK
  unfold bb_X12_carryOut_5 at hf
  refine g_iload X dX12_carryOut_5 rfl ?_
  refine g_iload_n X dX12_carryOut_7 rfl rfl ?_
  refine g_icmp_ge (tgt := 171) X dX12_carryOut_8 (by decide) (fun hc => ?_) (fun hc => ?_)
  · have hf := ife_t hc hf
    refine g_aload_n X dX12_carryOut_171 rfl rfl ?_
    obtain ⟨hT18, hf⟩ := ck_e hf
    refine g_get (ci := 10) (v := vR (mR M x0 17)) 17 X cdX12 i_X12_carryOut_X12 (by decide) k_X12_carryOut_f65 rfl dX12_carryOut_172 rfl hT18 rfl ?_
    refine g_iconst (v := (0 : Int32)) X dX12_carryOut_175 (by decide) ?_
    obtain ⟨a19, ha19, hf⟩ := dr_e hf
    obtain ⟨hT20, hf⟩ := ck_e hf
    obtain ⟨hg21, hf⟩ := ck_e hf
    refine g_iald X dX12_carryOut_176 ha19 hT20 hg21 ?_
    obtain ⟨w22, hw22, hz22⟩ := oI_e hf
    subst hz22
    have hf := hw22
    cases hf
    refine g_eqQ hK ?_
    exact g_iret X hr dX12_carryOut_177
  · have hf := ife_f hc hf
    refine g_aload_n X dX12_carryOut_11 rfl rfl ?_
    obtain ⟨hT23, hf⟩ := ck_e hf
    refine g_get (ci := 10) (v := vR (mR M x0 18)) 18 X cdX12 i_X12_carryOut_X12 (by decide) k_X12_carryOut_f3 rfl dX12_carryOut_12 rfl hT23 rfl ?_
    obtain ⟨a24, ha24, hf⟩ := dr_e hf
    obtain ⟨hT25, hf⟩ := ck_e hf
    refine g_getN (ci := 12) (w := vR (mR M a24 11)) 11 X cdX14 i_X12_carryOut_X14 (by decide) (gNw X _ kn_X12_81) rfl dX12_carryOut_15 ha24 hT25 rfl ?_
    obtain ⟨a26, ha26, hf⟩ := dr_e hf
    obtain ⟨hT27, hf⟩ := ck_e hf
    refine g_getN (ci := 11) (w := vR (mR M a26 21)) 21 X cdX13 i_X12_carryOut_X13 (by decide) (gNw X _ kn_X12_180) rfl dX12_carryOut_18 ha26 hT27 rfl ?_
    refine g_iload X dX12_carryOut_21 rfl ?_
    obtain ⟨a28, ha28, hf⟩ := dr_e hf
    obtain ⟨hT29, hf⟩ := ck_e hf
    obtain ⟨hg30, hf⟩ := ck_e hf
    refine g_iald X dX12_carryOut_23 ha28 hT29 hg30 ?_
    refine g_istore (lv' := [(5, vI (mI M a28 x4.toNatClampNeg)), (0, vR (some x0)), (2, vI x2), (3, vI x3), (4, vI x4)]) X dX12_carryOut_24 (by decide) rfl ?_
    refine g_iinc (v := (1 : Int32)) (lv' := [(4, vI (x4 + (1 : Int32))), (5, vI (mI M a28 x4.toNatClampNeg)), (0, vR (some x0)), (2, vI x2), (3, vI x3)]) X dX12_carryOut_26 rfl (by decide) (by decide) rfl ?_
    refine g_iload X dX12_carryOut_29 rfl ?_
    obtain ⟨r31, M31, hq31, hf⟩ := bd_e hf
    refine g_callSN (As := [vI (mI M a28 x4.toNatClampNeg)]) (st := []) (v := some (vI r31)) (M1 := M31) X (m_X14_isPushed l hq31) ⟨va_cnB 1 X.2.2.1 gX12_carryOut_X14_isPushed_n183 rfl rfl rfl (gNw X _ kn_X12_183) (X.2.2.1 _ k_X12_carryOut_iiX14) (by decide +kernel) ⟨Nat.le_of_ble_eq_true rfl, Nat.le_of_ble_eq_true rfl⟩, X.2.2.1 _ k_X12_carryOut_smX14_isPushed, trivial⟩ rfl rfl (Nat.le_of_ble_eq_true rfl) dX12_carryOut_31 ⟨by decide, by decide⟩ ?_
    refine g_if_eq (tgt := 92) X dX12_carryOut_34 (by decide) (fun hc => ?_) (fun hc => ?_)
    · have hf := ife_t hc hf
      refine g_iload X dX12_carryOut_92 rfl ?_
      refine g_bipush (v := (31 : Int32)) X dX12_carryOut_94 (by decide) ?_
      refine g_icmp_eq (tgt := 106) X dX12_carryOut_96 (by decide) (fun hc => ?_) (fun hc => ?_)
      · have hf := ife_t hc hf
        refine g_sub (lvsub_of _ _ [2, 3, 4, 0, 1] rfl) ?_
        exact t_X12_carryOut_106 X hr _ _ _ _ _ _ _ hf hK
      · have hf := ife_f hc hf
        refine g_iload X dX12_carryOut_99 rfl ?_
        refine g_bipush (v := (20 : Int32)) X dX12_carryOut_101 (by decide) ?_
        refine g_icmp_ne (tgt := 140) X dX12_carryOut_103 (by decide) (fun hc => ?_) (fun hc => ?_)
        · have hf := ife_f hc hf
          refine g_iinc (v := (-1 : Int32)) (lv' := [(3, vI (x3 + (-1 : Int32))), (4, vI (x4 + (1 : Int32))), (5, vI (mI M a28 x4.toNatClampNeg)), (0, vR (some x0)), (2, vI x2)]) X dX12_carryOut_140 rfl (by decide) (by decide) rfl ?_
          refine g_aload_n X dX12_carryOut_143 rfl rfl ?_
          obtain ⟨hT32, hf⟩ := ck_e hf
          refine g_get (ci := 10) (v := vR (mR M31 x0 17)) 17 X cdX12 i_X12_carryOut_X12 (by decide) k_X12_carryOut_f65 rfl dX12_carryOut_144 rfl hT32 rfl ?_
          refine g_iload_n X dX12_carryOut_147 rfl rfl ?_
          refine g_iload X dX12_carryOut_148 rfl ?_
          refine g_aload_n X dX12_carryOut_150 rfl rfl ?_
          refine g_get (ci := 10) (v := vR (mR M31 x0 17)) 17 X cdX12 i_X12_carryOut_X12 (by decide) k_X12_carryOut_f65 rfl dX12_carryOut_151 rfl hT32 rfl ?_
          refine g_iload_n X dX12_carryOut_154 rfl rfl ?_
          obtain ⟨a33, ha33, hf⟩ := dr_e hf
          obtain ⟨hT34, hf⟩ := ck_e hf
          obtain ⟨hg35, hf⟩ := ck_e hf
          refine g_iald X dX12_carryOut_155 ha33 hT34 hg35 ?_
          refine g_aload_n X dX12_carryOut_156 rfl rfl ?_
          refine g_get (ci := 10) (v := vR (mR M31 x0 17)) 17 X cdX12 i_X12_carryOut_X12 (by decide) k_X12_carryOut_f65 rfl dX12_carryOut_157 rfl hT32 rfl ?_
          refine g_iload_n X dX12_carryOut_160 rfl rfl ?_
          refine g_iconst (v := (1 : Int32)) X dX12_carryOut_161 (by decide) ?_
          refine g_iadd X dX12_carryOut_162 ?_
          obtain ⟨hg36, hf⟩ := ck_e hf
          refine g_iald X dX12_carryOut_163 ha33 hT34 hg36 ?_
          obtain ⟨r37, M37, hq37, hf⟩ := bd_e hf
          refine g_callSN (As := [vI (mI M a28 x4.toNatClampNeg), vI (mI M31 a33 ((x3 + (-1 : Int32))).toNatClampNeg), vI (mI M31 a33 (((x3 + (-1 : Int32)) + (1 : Int32))).toNatClampNeg)]) (st := [vI (x3 + (-1 : Int32)), vR (mR M31 x0 17)]) (v := some (vI r37)) (M1 := M37) X (m_X14_both l hq37) ⟨va_cnB 3 X.2.2.1 gX12_carryOut_X14_both_n190 rfl rfl rfl (gNw X _ kn_X12_190) (X.2.2.1 _ k_X12_carryOut_iiX14) (by decide +kernel) ⟨Nat.le_of_ble_eq_true rfl, Nat.le_of_ble_eq_true rfl⟩, X.2.2.1 _ k_X12_carryOut_smX14_both, trivial⟩ rfl rfl (Nat.le_of_ble_eq_true rfl) dX12_carryOut_164 ⟨by decide, by decide⟩ ?_
          obtain ⟨hT38, hf⟩ := ck_e hf
          obtain ⟨hg39, hf⟩ := ck_e hf
          refine g_iast X dX12_carryOut_167 ha33 hT38 hg39 ?_
          obtain ⟨M40, hM40, hf⟩ := lw_e hf
          rw [← hM40]
          have hT41 : mT M40 a33 = 20 := by rw [hM40]; exact hT38
          refine g_goto (tgt := 5) X dX12_carryOut_168 (by decide) ?_
          cases hf
          refine g_sub (lvsub_of _ _ [3, 4, 0, 1] rfl) ?_
          exact hK
        · have hf := ife_t hc hf
          refine g_sub (lvsub_of _ _ [2, 3, 4, 0, 1] rfl) ?_
          exact t_X12_carryOut_106 X hr _ _ _ _ _ _ _ hf hK
    · have hf := ife_f hc hf
      refine g_iinc (v := (1 : Int32)) (lv' := [(3, vI (x3 + (1 : Int32))), (4, vI (x4 + (1 : Int32))), (5, vI (mI M a28 x4.toNatClampNeg)), (0, vR (some x0)), (2, vI x2)]) X dX12_carryOut_37 rfl (by decide) (by decide) rfl ?_
      refine g_aload_n X dX12_carryOut_40 rfl rfl ?_
      obtain ⟨hT42, hf⟩ := ck_e hf
      refine g_get (ci := 10) (v := vR (mR M31 x0 17)) 17 X cdX12 i_X12_carryOut_X12 (by decide) k_X12_carryOut_f65 rfl dX12_carryOut_41 rfl hT42 rfl ?_
      refine g_iload_n X dX12_carryOut_44 rfl rfl ?_
      refine g_iload X dX12_carryOut_45 rfl ?_
      refine g_bipush (v := (15 : Int32)) X dX12_carryOut_47 (by decide) ?_
      refine g_icmp_ne (tgt := 59) X dX12_carryOut_49 (by decide) (fun hc => ?_) (fun hc => ?_)
      · have hf := ife_f hc hf
        refine g_aload_n X dX12_carryOut_59 rfl rfl ?_
        refine g_iload X dX12_carryOut_60 rfl ?_
        refine g_aload_n X dX12_carryOut_62 rfl rfl ?_
        refine g_get (ci := 10) (v := vR (mR M31 x0 18)) 18 X cdX12 i_X12_carryOut_X12 (by decide) k_X12_carryOut_f3 rfl dX12_carryOut_63 rfl hT42 rfl ?_
        obtain ⟨a43, ha43, hf⟩ := dr_e hf
        obtain ⟨hT44, hf⟩ := ck_e hf
        refine g_getN (ci := 12) (w := vR (mR M31 a43 11)) 11 X cdX14 i_X12_carryOut_X14 (by decide) (gNw X _ kn_X12_81) rfl dX12_carryOut_66 ha43 hT44 rfl ?_
        obtain ⟨a45, ha45, hf⟩ := dr_e hf
        obtain ⟨hT46, hf⟩ := ck_e hf
        refine g_getN (ci := 11) (w := vR (mR M31 a45 21)) 21 X cdX13 i_X12_carryOut_X13 (by decide) (gNw X _ kn_X12_180) rfl dX12_carryOut_69 ha45 hT46 rfl ?_
        refine g_iload X dX12_carryOut_72 rfl ?_
        obtain ⟨a47, ha47, hf⟩ := dr_e hf
        obtain ⟨hT48, hf⟩ := ck_e hf
        obtain ⟨hg49, hf⟩ := ck_e hf
        refine g_iald X dX12_carryOut_74 ha47 hT48 hg49 ?_
        obtain ⟨r50, M50, hq50, hf⟩ := bd_e hf
        refine g_callV (ci := 10) (b := x0) (As := [vI (mI M a28 x4.toNatClampNeg), vI (mI M31 a47 ((x4 + (1 : Int32))).toNatClampNeg)]) (st := [vI (x3 + (1 : Int32)), vR (mR M31 x0 17)]) (v := some (vI r50)) (M1 := M50) X (m_X12_pushed l hq50) (cwV 2 X.2.2.1 gX12_carryOut_X12_pushed rfl rfl rfl (by decide +kernel) ⟨Nat.le_of_ble_eq_true rfl, Nat.le_of_ble_eq_true rfl⟩) rfl rfl rfl hT42 (by decide) rfl (Nat.le_of_ble_eq_true rfl) dX12_carryOut_75 ⟨by decide, by decide⟩ ?_
        refine g_sub (lvsub_of _ _ [3, 4, 0, 1, 2] rfl) ?_
        exact t_X12_carryOut_78 X hr _ _ _ _ _ _ _ _ _ _ hf hK
      · have hf := ife_t hc hf
        refine g_aload_n X dX12_carryOut_52 rfl rfl ?_
        refine g_get (ci := 10) (v := vI (mI M31 x0 0)) 0 X cdX12 i_X12_carryOut_X12 (by decide) k_X12_carryOut_f74 rfl dX12_carryOut_53 rfl hT42 rfl ?_
        refine g_goto (tgt := 78) X dX12_carryOut_56 (by decide) ?_
        refine g_sub (lvsub_of _ _ [3, 4, 0, 1, 2] rfl) ?_
        exact t_X12_carryOut_78 X hr _ _ _ _ _ _ _ _ _ _ hf hK
set_option maxHeartbeats 4000000 in
set_option maxRecDepth 100000 in
theorem tl_X12_carryOut_5 (X : gX p s m args meth c D cy B (gSt Z B H0) RX12 cX12_carryOut wsX12_carryOut 6) (hr : meth.sig.returnType = (some .int)) {Q : State → Prop} : ∀ (M : gMem) (x0 : Nat) (x2 : Int32) (x3 : Int32) (x4 : Int32) (z : Int32 × gMem), lp_X12_carryOut_5 M x0 x2 x3 x4 = some z → (fun (r : Int32 × gMem) => Q = gMQ below D cy B H0 args s 0 0 (some (vI r.1)) r.2) z → gGo p l e rX12_carryOut s m args below meth c D cy B H0 6 0 0 Q 5 [(0, vR (some x0)), (2, vI x2), (3, vI x3), (4, vI x4)] [] M := by
  intro M x0 x2 x3 x4 z hf hK
  refine lp_ind (P := (fun (q : gMem × Int32 × Int32) (z : Int32 × gMem) => (fun (r : Int32 × gMem) => Q = gMQ below D cy B H0 args s 0 0 (some (vI r.1)) r.2) z → gGo p l e rX12_carryOut s m args below meth c D cy B H0 6 0 0 Q 5 [(0, vR (some x0)), (2, vI x2), (3, vI q.2.1), (4, vI q.2.2)] [] q.1)) (fun q z hq => ?_) _ _ hf hK
  intro hK
  obtain ⟨w, hw, hm⟩ := hq
  refine tb_X12_carryOut_5 X hr _ _ _ _ _ w hw ?_
  cases w with
  | inl a => exact hm hK
  | inr b => cases hm; exact hK
set_option maxHeartbeats 4000000 in
set_option maxRecDepth 100000 in
theorem t_X12_carryOut_0 (X : gX p s m args meth c D cy B (gSt Z B H0) RX12 cX12_carryOut wsX12_carryOut 6) (hr : meth.sig.returnType = (some .int)) {Q : State → Prop} : ∀ (M : gMem) (x0 : Nat) (x1 : Int32) (x2 : Int32) (z : Int32 × gMem), b_X12_carryOut_0 M x0 x1 x2 = some z → (fun (r : Int32 × gMem) => Q = gMQ below D cy B H0 args s 0 0 (some (vI r.1)) r.2) z → gGo p l e rX12_carryOut s m args below meth c D cy B H0 6 0 0 Q 0 [(0, vR (some x0)), (1, vI x1), (2, vI x2)] [] M := by
  intro M x0 x1 x2 z hf hK
  unfold b_X12_carryOut_0 at hf
  refine g_iconst (v := (-1 : Int32)) X dX12_carryOut_0 (by decide) ?_
  refine g_istore_n (lv' := [(3, vI (-1 : Int32)), (0, vR (some x0)), (1, vI x1), (2, vI x2)]) X dX12_carryOut_1 rfl (by decide) rfl ?_
  refine g_iload_n X dX12_carryOut_2 rfl rfl ?_
  refine g_istore (lv' := [(4, vI x1), (3, vI (-1 : Int32)), (0, vR (some x0)), (1, vI x1), (2, vI x2)]) X dX12_carryOut_3 (by decide) rfl ?_
  refine g_sub (lvsub_of _ _ [2, 4, 1, 0] rfl) ?_
  exact tl_X12_carryOut_5 X hr _ _ _ _ _ _ hf hK
set_option maxHeartbeats 4000000 in
set_option maxRecDepth 100000 in
theorem m_X12_carryOut (l : Launch) {D : va_G} {cy : Nat → ClassId} {B : Nat} {H0 : Heap} {Z : Nat → Nat} {M M1 : gMem} {x0 : Nat} {x1 : Int32} {x2 : Int32} {r : Int32} (hf : f_X12_carryOut M x0 x1 x2 = some (r, M1)) : Met l yX12_carryOut wsX12_carryOut rX12_carryOut (va_Pc (Value.ref x0 :: List.map gv [vI x1, vI x2]) (gPre D cy B H0 (gSt Z B H0) M)) (gQ D cy B H0 (some (vI r)) M1) 0 0 (gA B) := by
  refine Met.ofW (cc := cX12_carryOut) (maxL := 6) (ret := (some .int)) (by decide) rfl ?_
  intro p e s m args below meth c s₁ Bd hml hv
  obtain ⟨rfl, hW, hKK, hFs⟩ := hv
  have X : gX p s m _ meth c D cy B (gSt Z B H0) RX12 cX12_carryOut wsX12_carryOut 6 := ⟨Bd.exec, Bd.bytes, atoms_spec (ws := wsX12_carryOut) Bd.pre, findClass_of_methodNamed Bd.named, hml, hKK, by rw [hW.1]; exact hW.2.1, Bd.notSynchronized, hFs⟩
  have hr := Bd.returns
  have hl := lv_entry ([.ref x0, .int x1, .int x2]) (n := 6) (Nat.le_of_ble_eq_true rfl)
  show W p l e rX12_carryOut s m _ below meth c s.heap [] 0 0 _ (entryFrame m ([.ref x0, .int x1, .int x2] : List Value).toArray 6)
  rw [lg_entry_eq]
  generalize (lg_sl ([.ref x0, .int x1, .int x2]) ++ List.replicate (6 - (lg_sl ([.ref x0, .int x1, .int x2])).length) Slot.unset).toArray = ls at hl ⊢
  have hl : lv_has ls 6 (List.map gq [(0, vR (some x0)), (1, vI x1), (2, vI x2)]) := hl
  exact t_X12_carryOut_0 X hr _ _ _ _ _ hf rfl s.heap [] ls hW va_S.rf (lv_has_sub hl (lvsub_of _ _ [0, 1, 2] rfl))
/-! ## TideLotsModel$State.isSpared(II)Z -/
theorem dX12_isSpared_0 : decode cX12_isSpared 0 = .ok (.iconst 0, 1) := by decide +kernel
theorem dX12_isSpared_1 : decode cX12_isSpared 1 = .ok (.istore_n 3, 1) := by decide +kernel
theorem dX12_isSpared_2 : decode cX12_isSpared 2 = .ok (.iload_n 3, 1) := by decide +kernel
theorem dX12_isSpared_3 : decode cX12_isSpared 3 = .ok (.aload_n 0, 1) := by decide +kernel
theorem dX12_isSpared_4 : decode cX12_isSpared 4 = .ok (.getfield 3, 3) := by decide +kernel
theorem dX12_isSpared_7 : decode cX12_isSpared 7 = .ok (.getfield 81, 3) := by decide +kernel
theorem dX12_isSpared_10 : decode cX12_isSpared 10 = .ok (.getfield 113, 3) := by decide +kernel
theorem dX12_isSpared_13 : decode cX12_isSpared 13 = .ok (.if_icmp .ge 129, 3) := by decide +kernel
theorem dX12_isSpared_16 : decode cX12_isSpared 16 = .ok (.iconst 0, 1) := by decide +kernel
theorem dX12_isSpared_17 : decode cX12_isSpared 17 = .ok (.istore 4, 2) := by decide +kernel
theorem dX12_isSpared_19 : decode cX12_isSpared 19 = .ok (.iconst 0, 1) := by decide +kernel
theorem dX12_isSpared_20 : decode cX12_isSpared 20 = .ok (.istore 5, 2) := by decide +kernel
theorem dX12_isSpared_22 : decode cX12_isSpared 22 = .ok (.iload 5, 2) := by decide +kernel
theorem dX12_isSpared_24 : decode cX12_isSpared 24 = .ok (.aload_n 0, 1) := by decide +kernel
theorem dX12_isSpared_25 : decode cX12_isSpared 25 = .ok (.getfield 3, 3) := by decide +kernel
theorem dX12_isSpared_28 : decode cX12_isSpared 28 = .ok (.getfield 81, 3) := by decide +kernel
theorem dX12_isSpared_31 : decode cX12_isSpared 31 = .ok (.getfield 160, 3) := by decide +kernel
theorem dX12_isSpared_34 : decode cX12_isSpared 34 = .ok (.iload_n 3, 1) := by decide +kernel
theorem dX12_isSpared_35 : decode cX12_isSpared 35 = .ok (.iaload, 1) := by decide +kernel
theorem dX12_isSpared_36 : decode cX12_isSpared 36 = .ok (.if_icmp .ge 41, 3) := by decide +kernel
theorem dX12_isSpared_39 : decode cX12_isSpared 39 = .ok (.iload 4, 2) := by decide +kernel
theorem dX12_isSpared_41 : decode cX12_isSpared 41 = .ok (.aload_n 0, 1) := by decide +kernel
theorem dX12_isSpared_42 : decode cX12_isSpared 42 = .ok (.getfield 3, 3) := by decide +kernel
theorem dX12_isSpared_45 : decode cX12_isSpared 45 = .ok (.getfield 81, 3) := by decide +kernel
theorem dX12_isSpared_48 : decode cX12_isSpared 48 = .ok (.getfield 163, 3) := by decide +kernel
theorem dX12_isSpared_51 : decode cX12_isSpared 51 = .ok (.bipush 8, 2) := by decide +kernel
theorem dX12_isSpared_53 : decode cX12_isSpared 53 = .ok (.iload_n 3, 1) := by decide +kernel
theorem dX12_isSpared_54 : decode cX12_isSpared 54 = .ok (.imul, 1) := by decide +kernel
theorem dX12_isSpared_55 : decode cX12_isSpared 55 = .ok (.iload 5, 2) := by decide +kernel
theorem dX12_isSpared_57 : decode cX12_isSpared 57 = .ok (.iadd, 1) := by decide +kernel
theorem dX12_isSpared_58 : decode cX12_isSpared 58 = .ok (.iaload, 1) := by decide +kernel
theorem dX12_isSpared_59 : decode cX12_isSpared 59 = .ok (.iload_n 1, 1) := by decide +kernel
theorem dX12_isSpared_60 : decode cX12_isSpared 60 = .ok (.if_icmp .ne 7, 3) := by decide +kernel
theorem dX12_isSpared_63 : decode cX12_isSpared 63 = .ok (.iconst 1, 1) := by decide +kernel
theorem dX12_isSpared_64 : decode cX12_isSpared 64 = .ok (.goto 4, 3) := by decide +kernel
theorem dX12_isSpared_67 : decode cX12_isSpared 67 = .ok (.iconst 0, 1) := by decide +kernel
theorem dX12_isSpared_68 : decode cX12_isSpared 68 = .ok (.ior, 1) := by decide +kernel
theorem dX12_isSpared_69 : decode cX12_isSpared 69 = .ok (.istore 4, 2) := by decide +kernel
theorem dX12_isSpared_71 : decode cX12_isSpared 71 = .ok (.iinc 5 1, 3) := by decide +kernel
theorem dX12_isSpared_74 : decode cX12_isSpared 74 = .ok (.goto (-52), 3) := by decide +kernel
theorem dX12_isSpared_77 : decode cX12_isSpared 77 = .ok (.iload 4, 2) := by decide +kernel
theorem dX12_isSpared_79 : decode cX12_isSpared 79 = .ok (.ifCond .eq 57, 3) := by decide +kernel
theorem dX12_isSpared_82 : decode cX12_isSpared 82 = .ok (.aload_n 0, 1) := by decide +kernel
theorem dX12_isSpared_83 : decode cX12_isSpared 83 = .ok (.getfield 3, 3) := by decide +kernel
theorem dX12_isSpared_86 : decode cX12_isSpared 86 = .ok (.getfield 81, 3) := by decide +kernel
theorem dX12_isSpared_89 : decode cX12_isSpared 89 = .ok (.getfield 116, 3) := by decide +kernel
theorem dX12_isSpared_92 : decode cX12_isSpared 92 = .ok (.iload_n 3, 1) := by decide +kernel
theorem dX12_isSpared_93 : decode cX12_isSpared 93 = .ok (.iaload, 1) := by decide +kernel
theorem dX12_isSpared_94 : decode cX12_isSpared 94 = .ok (.iload_n 2, 1) := by decide +kernel
theorem dX12_isSpared_95 : decode cX12_isSpared 95 = .ok (.if_icmp .ne 41, 3) := by decide +kernel
theorem dX12_isSpared_98 : decode cX12_isSpared 98 = .ok (.aload_n 0, 1) := by decide +kernel
theorem dX12_isSpared_99 : decode cX12_isSpared 99 = .ok (.iload_n 2, 1) := by decide +kernel
theorem dX12_isSpared_100 : decode cX12_isSpared 100 = .ok (.invokevirtual 166, 3) := by decide +kernel
theorem dX12_isSpared_103 : decode cX12_isSpared 103 = .ok (.aload_n 0, 1) := by decide +kernel
theorem dX12_isSpared_104 : decode cX12_isSpared 104 = .ok (.aload_n 0, 1) := by decide +kernel
theorem dX12_isSpared_105 : decode cX12_isSpared 105 = .ok (.getfield 3, 3) := by decide +kernel
theorem dX12_isSpared_108 : decode cX12_isSpared 108 = .ok (.getfield 81, 3) := by decide +kernel
theorem dX12_isSpared_111 : decode cX12_isSpared 111 = .ok (.getfield 170, 3) := by decide +kernel
theorem dX12_isSpared_114 : decode cX12_isSpared 114 = .ok (.iload_n 3, 1) := by decide +kernel
theorem dX12_isSpared_115 : decode cX12_isSpared 115 = .ok (.iaload, 1) := by decide +kernel
theorem dX12_isSpared_116 : decode cX12_isSpared 116 = .ok (.aload_n 0, 1) := by decide +kernel
theorem dX12_isSpared_117 : decode cX12_isSpared 117 = .ok (.getfield 3, 3) := by decide +kernel
theorem dX12_isSpared_120 : decode cX12_isSpared 120 = .ok (.getfield 81, 3) := by decide +kernel
theorem dX12_isSpared_123 : decode cX12_isSpared 123 = .ok (.getfield 173, 3) := by decide +kernel
theorem dX12_isSpared_126 : decode cX12_isSpared 126 = .ok (.iload_n 3, 1) := by decide +kernel
theorem dX12_isSpared_127 : decode cX12_isSpared 127 = .ok (.iaload, 1) := by decide +kernel
theorem dX12_isSpared_128 : decode cX12_isSpared 128 = .ok (.invokevirtual 154, 3) := by decide +kernel
theorem dX12_isSpared_131 : decode cX12_isSpared 131 = .ok (.if_icmp .ge 5, 3) := by decide +kernel
theorem dX12_isSpared_134 : decode cX12_isSpared 134 = .ok (.iconst 1, 1) := by decide +kernel
theorem dX12_isSpared_135 : decode cX12_isSpared 135 = .ok (.ireturn, 1) := by decide +kernel
theorem dX12_isSpared_136 : decode cX12_isSpared 136 = .ok (.iinc 3 1, 3) := by decide +kernel
theorem dX12_isSpared_139 : decode cX12_isSpared 139 = .ok (.goto (-137), 3) := by decide +kernel
theorem dX12_isSpared_142 : decode cX12_isSpared 142 = .ok (.iconst 0, 1) := by decide +kernel
theorem dX12_isSpared_143 : decode cX12_isSpared 143 = .ok (.ireturn, 1) := by decide +kernel
set_option maxRecDepth 20000 in
theorem ggX12_isSpared_X12_fishAt : GoodIn wsX12_isSpared wsX12_fishAt := goodIn_r _ [6, 7, 38, 39, 40, 41, 42, 43, 44, 45, 46, 47, 48, 49, 50, 51, 52, 53, 54, 55, 56] (by decide +kernel) (by decide +kernel)
set_option maxRecDepth 20000 in
theorem gX12_isSpared_X12_fishAt : GoodIn wsX12_isSpared (wsV RX12 166 RX12 yX12_fishAt wsX12_fishAt) := goodIn_app (goodIn_of _ (by decide +kernel)) ggX12_isSpared_X12_fishAt
set_option maxRecDepth 20000 in
theorem ggX12_isSpared_X12_carryOut : GoodIn wsX12_isSpared wsX12_carryOut := goodIn_r _ [11, 1, 12, 13, 14, 15, 16, 17, 18, 19, 20, 21, 22, 5, 23, 24, 25, 26, 27, 28, 2, 3, 4, 6, 7, 29, 30, 31, 32, 33, 34, 35, 36, 37, 38, 39, 40, 41, 42, 43, 44, 45, 46, 47, 48, 49, 50, 51, 52, 53, 54, 55, 56, 57, 58, 59, 60, 61, 62, 63, 64, 65, 66, 67, 68, 69, 70, 71, 72, 73, 74, 75, 76, 77, 78, 79, 80, 81, 82, 83, 84, 85, 86, 87, 88, 89, 90, 91, 92, 93, 94, 95, 96] (by decide +kernel) (by decide +kernel)
set_option maxRecDepth 20000 in
theorem gX12_isSpared_X12_carryOut : GoodIn wsX12_isSpared (wsV RX12 154 RX12 yX12_carryOut wsX12_carryOut) := goodIn_app (goodIn_of _ (by decide +kernel)) ggX12_isSpared_X12_carryOut
theorem k_X12_isSpared_f3 : Cond.fieldLink RX12 3 "TideLotsModel$State" "this$0" "LTideLotsModel;" ∈ wsX12_isSpared := by decide +kernel
theorem i_X12_isSpared_X12 : ∀ w ∈ u_ws RX12 TX12 19, w ∈ wsX12_isSpared := by decide +kernel
theorem i_X12_isSpared_X14 : ∀ w ∈ u_ws RX14 TX14 15, w ∈ wsX12_isSpared := by decide +kernel
theorem i_X12_isSpared_X13 : ∀ w ∈ u_ws RX13 TX13 25, w ∈ wsX12_isSpared := by decide +kernel
theorem kn_X12_116 : Cond.fieldLinkNest "TideLotsModel$State" (116 : Nat) "TideLotsModel$Told" "spared" "[I" "TideLotsModel" ∈ gNs := by decide +kernel
theorem kn_X12_170 : Cond.fieldLinkNest "TideLotsModel$State" (170 : Nat) "TideLotsModel$Told" "sum" "[I" "TideLotsModel" ∈ gNs := by decide +kernel
theorem kn_X12_173 : Cond.fieldLinkNest "TideLotsModel$State" (173 : Nat) "TideLotsModel$Told" "summed" "[I" "TideLotsModel" ∈ gNs := by decide +kernel
theorem kn_X12_113 : Cond.fieldLinkNest "TideLotsModel$State" (113 : Nat) "TideLotsModel$Told" "pacts" "I" "TideLotsModel" ∈ gNs := by decide +kernel
abbrev rX12_isSpared : Room := { frames := 3, cells := 0, slots := 0, locals := 70 }
noncomputable def b_X12_isSpared_136 (M : gMem) (x0 : Nat) (x1 : Int32) (x2 : Int32) (x3 : Int32) : Option ((gMem × Int32) ⊕ (Int32 × gMem)) :=
  some (.inl (M, (x3 + (1 : Int32))))
noncomputable def b_X12_isSpared_68 (M : gMem) (x0 : Nat) (x1 : Int32) (x2 : Int32) (x3 : Int32) (x5 : Int32) (s0 : Int32) (s1 : Int32) : Option ((gMem × Int32 × Int32) ⊕ ((gMem × Int32) ⊕ (Int32 × gMem))) :=
  some (.inl (M, (s0 ||| s1), (x5 + (1 : Int32))))
noncomputable def bb_X12_isSpared_22 (M : gMem) (x0 : Nat) (x1 : Int32) (x2 : Int32) (x3 : Int32) (x4 : Int32) (x5 : Int32) : Option ((gMem × Int32 × Int32) ⊕ ((gMem × Int32) ⊕ (Int32 × gMem))) :=
  ck (mT M x0 = 11) <| dr ((mR M x0 18)) fun a2 => ck (mT M a2 = 13) <| dr ((mR M a2 11)) fun a4 => ck (mT M a4 = 12) <| dr ((mR M a4 13)) fun a6 => ck (mT M a6 = 20) <| ck (inb x3 (mL M a6)) <| (if (mI M a6 x3.toNatClampNeg) ≤ x5 then (if x4 = 0 then oI (b_X12_isSpared_136 M x0 x1 x2 x3) else dr ((mR M a4 12)) fun a10 => ck (mT M a10 = 20) <| ck (inb x3 (mL M a10)) <| (if (mI M a10 x3.toNatClampNeg) = x2 then bd (f_X12_fishAt M x0 x2) fun r14 M14 => ck (mT M14 x0 = 11) <| dr ((mR M14 x0 18)) fun a16 => ck (mT M14 a16 = 13) <| dr ((mR M14 a16 11)) fun a18 => ck (mT M14 a18 = 12) <| dr ((mR M14 a18 19)) fun a20 => ck (mT M14 a20 = 20) <| ck (inb x3 (mL M14 a20)) <| dr ((mR M14 a18 20)) fun a23 => ck (mT M14 a23 = 20) <| ck (inb x3 (mL M14 a23)) <| bd (f_X12_carryOut M14 x0 ((mI M14 a20 x3.toNatClampNeg)) ((mI M14 a23 x3.toNatClampNeg))) fun r26 M26 => (if r26 ≤ r14 then oI (b_X12_isSpared_136 M26 x0 x1 x2 x3) else oI (oI (some ((1 : Int32), M26)))) else oI (b_X12_isSpared_136 M x0 x1 x2 x3))) else dr ((mR M a4 14)) fun a30 => ck (mT M a30 = 20) <| ck (inb (((8 : Int32) * x3) + x5) (mL M a30)) <| (if (mI M a30 ((((8 : Int32) * x3) + x5)).toNatClampNeg) = x1 then b_X12_isSpared_68 M x0 x1 x2 x3 x5 x4 ((1 : Int32)) else b_X12_isSpared_68 M x0 x1 x2 x3 x5 x4 ((0 : Int32))))
noncomputable def lp_X12_isSpared_22 (M : gMem) (x0 : Nat) (x1 : Int32) (x2 : Int32) (x3 : Int32) (x4 : Int32) (x5 : Int32) : Option ((gMem × Int32) ⊕ (Int32 × gMem)) :=
  lp (fun (q : gMem × Int32 × Int32) => bb_X12_isSpared_22 q.1 x0 x1 x2 x3 q.2.1 q.2.2) (M, x4, x5)
noncomputable def bb_X12_isSpared_2 (M : gMem) (x0 : Nat) (x1 : Int32) (x2 : Int32) (x3 : Int32) : Option ((gMem × Int32) ⊕ (Int32 × gMem)) :=
  ck (mT M x0 = 11) <| dr ((mR M x0 18)) fun a34 => ck (mT M a34 = 13) <| dr ((mR M a34 11)) fun a36 => ck (mT M a36 = 12) <| (if (mI M a36 11) ≤ x3 then oI (some ((0 : Int32), M)) else lp_X12_isSpared_22 M x0 x1 x2 x3 ((0 : Int32)) ((0 : Int32)))
noncomputable def lp_X12_isSpared_2 (M : gMem) (x0 : Nat) (x1 : Int32) (x2 : Int32) (x3 : Int32) : Option (Int32 × gMem) :=
  lp (fun (q : gMem × Int32) => bb_X12_isSpared_2 q.1 x0 x1 x2 q.2) (M, x3)
noncomputable def b_X12_isSpared_0 (M : gMem) (x0 : Nat) (x1 : Int32) (x2 : Int32) : Option (Int32 × gMem) :=
  lp_X12_isSpared_2 M x0 x1 x2 ((0 : Int32))
noncomputable def f_X12_isSpared (M : gMem) (x0 : Nat) (x1 : Int32) (x2 : Int32) : Option (Int32 × gMem) :=
  b_X12_isSpared_0 M x0 x1 x2
set_option maxHeartbeats 4000000 in
set_option maxRecDepth 100000 in
theorem t_X12_isSpared_136 (X : gX p s m args meth c D cy B (gSt Z B H0) RX12 cX12_isSpared wsX12_isSpared 6) (hr : meth.sig.returnType = (some .boolean)) {Q : State → Prop} : ∀ (M : gMem) (x0 : Nat) (x1 : Int32) (x2 : Int32) (x3 : Int32) (z : (gMem × Int32) ⊕ (Int32 × gMem)), b_X12_isSpared_136 M x0 x1 x2 x3 = some z → (Sum.elim (fun (q : gMem × Int32) => gGo p l e rX12_isSpared s m args below meth c D cy B H0 6 0 0 Q 2 [(0, vR (some x0)), (1, vI x1), (2, vI x2), (3, vI q.2)] [] q.1) (fun (r : Int32 × gMem) => Q = gMQ below D cy B H0 args s 0 0 (some (vI r.1)) r.2)) z → gGo p l e rX12_isSpared s m args below meth c D cy B H0 6 0 0 Q 136 [(0, vR (some x0)), (1, vI x1), (2, vI x2), (3, vI x3)] [] M := by
  intro M x0 x1 x2 x3 z hf hK
  unfold b_X12_isSpared_136 at hf
  refine g_iinc (v := (1 : Int32)) (lv' := [(3, vI (x3 + (1 : Int32))), (0, vR (some x0)), (1, vI x1), (2, vI x2)]) X dX12_isSpared_136 rfl (by decide) (by decide) rfl ?_
  refine g_goto (tgt := 2) X dX12_isSpared_139 (by decide) ?_
  cases hf
  refine g_sub (lvsub_of _ _ [1, 2, 3, 0] rfl) ?_
  exact hK
set_option maxHeartbeats 4000000 in
set_option maxRecDepth 100000 in
theorem t_X12_isSpared_68 (X : gX p s m args meth c D cy B (gSt Z B H0) RX12 cX12_isSpared wsX12_isSpared 6) (hr : meth.sig.returnType = (some .boolean)) {Q : State → Prop} : ∀ (M : gMem) (x0 : Nat) (x1 : Int32) (x2 : Int32) (x3 : Int32) (x5 : Int32) (s0 : Int32) (s1 : Int32) (z : (gMem × Int32 × Int32) ⊕ ((gMem × Int32) ⊕ (Int32 × gMem))), b_X12_isSpared_68 M x0 x1 x2 x3 x5 s0 s1 = some z → (Sum.elim (fun (q : gMem × Int32 × Int32) => gGo p l e rX12_isSpared s m args below meth c D cy B H0 6 0 0 Q 22 [(0, vR (some x0)), (1, vI x1), (2, vI x2), (3, vI x3), (4, vI q.2.1), (5, vI q.2.2)] [] q.1) (Sum.elim (fun (q : gMem × Int32) => gGo p l e rX12_isSpared s m args below meth c D cy B H0 6 0 0 Q 2 [(0, vR (some x0)), (1, vI x1), (2, vI x2), (3, vI q.2)] [] q.1) (fun (r : Int32 × gMem) => Q = gMQ below D cy B H0 args s 0 0 (some (vI r.1)) r.2))) z → gGo p l e rX12_isSpared s m args below meth c D cy B H0 6 0 0 Q 68 [(0, vR (some x0)), (1, vI x1), (2, vI x2), (3, vI x3), (5, vI x5)] [vI s1, vI s0] M := by
  intro M x0 x1 x2 x3 x5 s0 s1 z hf hK
  unfold b_X12_isSpared_68 at hf
  refine g_ior X dX12_isSpared_68 ?_
  refine g_istore (lv' := [(4, vI (s0 ||| s1)), (0, vR (some x0)), (1, vI x1), (2, vI x2), (3, vI x3), (5, vI x5)]) X dX12_isSpared_69 (by decide) rfl ?_
  refine g_iinc (v := (1 : Int32)) (lv' := [(5, vI (x5 + (1 : Int32))), (4, vI (s0 ||| s1)), (0, vR (some x0)), (1, vI x1), (2, vI x2), (3, vI x3)]) X dX12_isSpared_71 rfl (by decide) (by decide) rfl ?_
  refine g_goto (tgt := 22) X dX12_isSpared_74 (by decide) ?_
  cases hf
  refine g_sub (lvsub_of _ _ [2, 3, 4, 5, 1, 0] rfl) ?_
  exact hK
set_option maxHeartbeats 4000000 in
set_option maxRecDepth 100000 in
theorem tb_X12_isSpared_22 (X : gX p s m args meth c D cy B (gSt Z B H0) RX12 cX12_isSpared wsX12_isSpared 6) (hr : meth.sig.returnType = (some .boolean)) {Q : State → Prop} : ∀ (M : gMem) (x0 : Nat) (x1 : Int32) (x2 : Int32) (x3 : Int32) (x4 : Int32) (x5 : Int32) (z : (gMem × Int32 × Int32) ⊕ ((gMem × Int32) ⊕ (Int32 × gMem))), bb_X12_isSpared_22 M x0 x1 x2 x3 x4 x5 = some z → (Sum.elim (fun (q : gMem × Int32 × Int32) => gGo p l e rX12_isSpared s m args below meth c D cy B H0 6 0 0 Q 22 [(0, vR (some x0)), (1, vI x1), (2, vI x2), (3, vI x3), (4, vI q.2.1), (5, vI q.2.2)] [] q.1) (Sum.elim (fun (q : gMem × Int32) => gGo p l e rX12_isSpared s m args below meth c D cy B H0 6 0 0 Q 2 [(0, vR (some x0)), (1, vI x1), (2, vI x2), (3, vI q.2)] [] q.1) (fun (r : Int32 × gMem) => Q = gMQ below D cy B H0 args s 0 0 (some (vI r.1)) r.2))) z → gGo p l e rX12_isSpared s m args below meth c D cy B H0 6 0 0 Q 22 [(0, vR (some x0)), (1, vI x1), (2, vI x2), (3, vI x3), (4, vI x4), (5, vI x5)] [] M := by
  intro M x0 x1 x2 x3 x4 x5 z hf hK
  unfold bb_X12_isSpared_22 at hf
  refine g_iload X dX12_isSpared_22 rfl ?_
  refine g_aload_n X dX12_isSpared_24 rfl rfl ?_
  obtain ⟨hT1, hf⟩ := ck_e hf
  refine g_get (ci := 10) (v := vR (mR M x0 18)) 18 X cdX12 i_X12_isSpared_X12 (by decide) k_X12_isSpared_f3 rfl dX12_isSpared_25 rfl hT1 rfl ?_
  obtain ⟨a2, ha2, hf⟩ := dr_e hf
  obtain ⟨hT3, hf⟩ := ck_e hf
  refine g_getN (ci := 12) (w := vR (mR M a2 11)) 11 X cdX14 i_X12_isSpared_X14 (by decide) (gNw X _ kn_X12_81) rfl dX12_isSpared_28 ha2 hT3 rfl ?_
  obtain ⟨a4, ha4, hf⟩ := dr_e hf
  obtain ⟨hT5, hf⟩ := ck_e hf
  refine g_getN (ci := 11) (w := vR (mR M a4 13)) 13 X cdX13 i_X12_isSpared_X13 (by decide) (gNw X _ kn_X12_160) rfl dX12_isSpared_31 ha4 hT5 rfl ?_
  refine g_iload_n X dX12_isSpared_34 rfl rfl ?_
  obtain ⟨a6, ha6, hf⟩ := dr_e hf
  obtain ⟨hT7, hf⟩ := ck_e hf
  obtain ⟨hg8, hf⟩ := ck_e hf
  refine g_iald X dX12_isSpared_35 ha6 hT7 hg8 ?_
  refine g_icmp_ge (tgt := 77) X dX12_isSpared_36 (by decide) (fun hc => ?_) (fun hc => ?_)
  · have hf := ife_t hc hf
    refine g_iload X dX12_isSpared_77 rfl ?_
    refine g_if_eq (tgt := 136) X dX12_isSpared_79 (by decide) (fun hc => ?_) (fun hc => ?_)
    · have hf := ife_t hc hf
      obtain ⟨w9, hw9, hz9⟩ := oI_e hf
      subst hz9
      have hf := hw9
      refine g_sub (lvsub_of _ _ [0, 1, 2, 3] rfl) ?_
      exact t_X12_isSpared_136 X hr _ _ _ _ _ _ hf hK
    · have hf := ife_f hc hf
      refine g_aload_n X dX12_isSpared_82 rfl rfl ?_
      refine g_get (ci := 10) (v := vR (mR M x0 18)) 18 X cdX12 i_X12_isSpared_X12 (by decide) k_X12_isSpared_f3 rfl dX12_isSpared_83 rfl hT1 rfl ?_
      refine g_getN (ci := 12) (w := vR (mR M a2 11)) 11 X cdX14 i_X12_isSpared_X14 (by decide) (gNw X _ kn_X12_81) rfl dX12_isSpared_86 ha2 hT3 rfl ?_
      refine g_getN (ci := 11) (w := vR (mR M a4 12)) 12 X cdX13 i_X12_isSpared_X13 (by decide) (gNw X _ kn_X12_116) rfl dX12_isSpared_89 ha4 hT5 rfl ?_
      refine g_iload_n X dX12_isSpared_92 rfl rfl ?_
      obtain ⟨a10, ha10, hf⟩ := dr_e hf
      obtain ⟨hT11, hf⟩ := ck_e hf
      obtain ⟨hg12, hf⟩ := ck_e hf
      refine g_iald X dX12_isSpared_93 ha10 hT11 hg12 ?_
      refine g_iload_n X dX12_isSpared_94 rfl rfl ?_
      refine g_icmp_ne (tgt := 136) X dX12_isSpared_95 (by decide) (fun hc => ?_) (fun hc => ?_)
      · have hf := ife_f hc hf
        obtain ⟨w13, hw13, hz13⟩ := oI_e hf
        subst hz13
        have hf := hw13
        refine g_sub (lvsub_of _ _ [0, 1, 2, 3] rfl) ?_
        exact t_X12_isSpared_136 X hr _ _ _ _ _ _ hf hK
      · have hf := ife_t hc hf
        refine g_aload_n X dX12_isSpared_98 rfl rfl ?_
        refine g_iload_n X dX12_isSpared_99 rfl rfl ?_
        obtain ⟨r14, M14, hq14, hf⟩ := bd_e hf
        refine g_callV (ci := 10) (b := x0) (As := [vI x2]) (st := []) (v := some (vI r14)) (M1 := M14) X (m_X12_fishAt l hq14) (cwV 1 X.2.2.1 gX12_isSpared_X12_fishAt rfl rfl rfl (by decide +kernel) ⟨Nat.le_of_ble_eq_true rfl, Nat.le_of_ble_eq_true rfl⟩) rfl rfl rfl hT1 (by decide) rfl (Nat.le_of_ble_eq_true rfl) dX12_isSpared_100 ⟨by decide, by decide⟩ ?_
        refine g_aload_n X dX12_isSpared_103 rfl rfl ?_
        refine g_aload_n X dX12_isSpared_104 rfl rfl ?_
        obtain ⟨hT15, hf⟩ := ck_e hf
        refine g_get (ci := 10) (v := vR (mR M14 x0 18)) 18 X cdX12 i_X12_isSpared_X12 (by decide) k_X12_isSpared_f3 rfl dX12_isSpared_105 rfl hT15 rfl ?_
        obtain ⟨a16, ha16, hf⟩ := dr_e hf
        obtain ⟨hT17, hf⟩ := ck_e hf
        refine g_getN (ci := 12) (w := vR (mR M14 a16 11)) 11 X cdX14 i_X12_isSpared_X14 (by decide) (gNw X _ kn_X12_81) rfl dX12_isSpared_108 ha16 hT17 rfl ?_
        obtain ⟨a18, ha18, hf⟩ := dr_e hf
        obtain ⟨hT19, hf⟩ := ck_e hf
        refine g_getN (ci := 11) (w := vR (mR M14 a18 19)) 19 X cdX13 i_X12_isSpared_X13 (by decide) (gNw X _ kn_X12_170) rfl dX12_isSpared_111 ha18 hT19 rfl ?_
        refine g_iload_n X dX12_isSpared_114 rfl rfl ?_
        obtain ⟨a20, ha20, hf⟩ := dr_e hf
        obtain ⟨hT21, hf⟩ := ck_e hf
        obtain ⟨hg22, hf⟩ := ck_e hf
        refine g_iald X dX12_isSpared_115 ha20 hT21 hg22 ?_
        refine g_aload_n X dX12_isSpared_116 rfl rfl ?_
        refine g_get (ci := 10) (v := vR (mR M14 x0 18)) 18 X cdX12 i_X12_isSpared_X12 (by decide) k_X12_isSpared_f3 rfl dX12_isSpared_117 rfl hT15 rfl ?_
        refine g_getN (ci := 12) (w := vR (mR M14 a16 11)) 11 X cdX14 i_X12_isSpared_X14 (by decide) (gNw X _ kn_X12_81) rfl dX12_isSpared_120 ha16 hT17 rfl ?_
        refine g_getN (ci := 11) (w := vR (mR M14 a18 20)) 20 X cdX13 i_X12_isSpared_X13 (by decide) (gNw X _ kn_X12_173) rfl dX12_isSpared_123 ha18 hT19 rfl ?_
        refine g_iload_n X dX12_isSpared_126 rfl rfl ?_
        obtain ⟨a23, ha23, hf⟩ := dr_e hf
        obtain ⟨hT24, hf⟩ := ck_e hf
        obtain ⟨hg25, hf⟩ := ck_e hf
        refine g_iald X dX12_isSpared_127 ha23 hT24 hg25 ?_
        obtain ⟨r26, M26, hq26, hf⟩ := bd_e hf
        refine g_callV (ci := 10) (b := x0) (As := [vI (mI M14 a20 x3.toNatClampNeg), vI (mI M14 a23 x3.toNatClampNeg)]) (st := [vI r14]) (v := some (vI r26)) (M1 := M26) X (m_X12_carryOut l hq26) (cwV 2 X.2.2.1 gX12_isSpared_X12_carryOut rfl rfl rfl (by decide +kernel) ⟨Nat.le_of_ble_eq_true rfl, Nat.le_of_ble_eq_true rfl⟩) rfl rfl rfl hT15 (by decide) rfl (Nat.le_of_ble_eq_true rfl) dX12_isSpared_128 ⟨by decide, by decide⟩ ?_
        refine g_icmp_ge (tgt := 136) X dX12_isSpared_131 (by decide) (fun hc => ?_) (fun hc => ?_)
        · have hf := ife_t hc hf
          obtain ⟨w27, hw27, hz27⟩ := oI_e hf
          subst hz27
          have hf := hw27
          refine g_sub (lvsub_of _ _ [0, 1, 2, 3] rfl) ?_
          exact t_X12_isSpared_136 X hr _ _ _ _ _ _ hf hK
        · have hf := ife_f hc hf
          refine g_iconst (v := (1 : Int32)) X dX12_isSpared_134 (by decide) ?_
          obtain ⟨w28, hw28, hz28⟩ := oI_e hf
          subst hz28
          have hf := hw28
          obtain ⟨w29, hw29, hz29⟩ := oI_e hf
          subst hz29
          have hf := hw29
          cases hf
          refine g_eqQ hK ?_
          exact g_zret X hr (gnb (Or.inr rfl)) dX12_isSpared_135
  · have hf := ife_f hc hf
    refine g_iload X dX12_isSpared_39 rfl ?_
    refine g_aload_n X dX12_isSpared_41 rfl rfl ?_
    refine g_get (ci := 10) (v := vR (mR M x0 18)) 18 X cdX12 i_X12_isSpared_X12 (by decide) k_X12_isSpared_f3 rfl dX12_isSpared_42 rfl hT1 rfl ?_
    refine g_getN (ci := 12) (w := vR (mR M a2 11)) 11 X cdX14 i_X12_isSpared_X14 (by decide) (gNw X _ kn_X12_81) rfl dX12_isSpared_45 ha2 hT3 rfl ?_
    refine g_getN (ci := 11) (w := vR (mR M a4 14)) 14 X cdX13 i_X12_isSpared_X13 (by decide) (gNw X _ kn_X12_163) rfl dX12_isSpared_48 ha4 hT5 rfl ?_
    refine g_bipush (v := (8 : Int32)) X dX12_isSpared_51 (by decide) ?_
    refine g_iload_n X dX12_isSpared_53 rfl rfl ?_
    refine g_imul X dX12_isSpared_54 ?_
    refine g_iload X dX12_isSpared_55 rfl ?_
    refine g_iadd X dX12_isSpared_57 ?_
    obtain ⟨a30, ha30, hf⟩ := dr_e hf
    obtain ⟨hT31, hf⟩ := ck_e hf
    obtain ⟨hg32, hf⟩ := ck_e hf
    refine g_iald X dX12_isSpared_58 ha30 hT31 hg32 ?_
    refine g_iload_n X dX12_isSpared_59 rfl rfl ?_
    refine g_icmp_ne (tgt := 67) X dX12_isSpared_60 (by decide) (fun hc => ?_) (fun hc => ?_)
    · have hf := ife_f hc hf
      refine g_iconst (v := (0 : Int32)) X dX12_isSpared_67 (by decide) ?_
      refine g_sub (lvsub_of _ _ [0, 1, 2, 3, 5] rfl) ?_
      exact t_X12_isSpared_68 X hr _ _ _ _ _ _ _ _ _ hf hK
    · have hf := ife_t hc hf
      refine g_iconst (v := (1 : Int32)) X dX12_isSpared_63 (by decide) ?_
      refine g_goto (tgt := 68) X dX12_isSpared_64 (by decide) ?_
      refine g_sub (lvsub_of _ _ [0, 1, 2, 3, 5] rfl) ?_
      exact t_X12_isSpared_68 X hr _ _ _ _ _ _ _ _ _ hf hK
set_option maxHeartbeats 4000000 in
set_option maxRecDepth 100000 in
theorem tl_X12_isSpared_22 (X : gX p s m args meth c D cy B (gSt Z B H0) RX12 cX12_isSpared wsX12_isSpared 6) (hr : meth.sig.returnType = (some .boolean)) {Q : State → Prop} : ∀ (M : gMem) (x0 : Nat) (x1 : Int32) (x2 : Int32) (x3 : Int32) (x4 : Int32) (x5 : Int32) (z : (gMem × Int32) ⊕ (Int32 × gMem)), lp_X12_isSpared_22 M x0 x1 x2 x3 x4 x5 = some z → (Sum.elim (fun (q : gMem × Int32) => gGo p l e rX12_isSpared s m args below meth c D cy B H0 6 0 0 Q 2 [(0, vR (some x0)), (1, vI x1), (2, vI x2), (3, vI q.2)] [] q.1) (fun (r : Int32 × gMem) => Q = gMQ below D cy B H0 args s 0 0 (some (vI r.1)) r.2)) z → gGo p l e rX12_isSpared s m args below meth c D cy B H0 6 0 0 Q 22 [(0, vR (some x0)), (1, vI x1), (2, vI x2), (3, vI x3), (4, vI x4), (5, vI x5)] [] M := by
  intro M x0 x1 x2 x3 x4 x5 z hf hK
  refine lp_ind (P := (fun (q : gMem × Int32 × Int32) (z : (gMem × Int32) ⊕ (Int32 × gMem)) => (Sum.elim (fun (q : gMem × Int32) => gGo p l e rX12_isSpared s m args below meth c D cy B H0 6 0 0 Q 2 [(0, vR (some x0)), (1, vI x1), (2, vI x2), (3, vI q.2)] [] q.1) (fun (r : Int32 × gMem) => Q = gMQ below D cy B H0 args s 0 0 (some (vI r.1)) r.2)) z → gGo p l e rX12_isSpared s m args below meth c D cy B H0 6 0 0 Q 22 [(0, vR (some x0)), (1, vI x1), (2, vI x2), (3, vI x3), (4, vI q.2.1), (5, vI q.2.2)] [] q.1)) (fun q z hq => ?_) _ _ hf hK
  intro hK
  obtain ⟨w, hw, hm⟩ := hq
  refine tb_X12_isSpared_22 X hr _ _ _ _ _ _ _ w hw ?_
  cases w with
  | inl a => exact hm hK
  | inr b => cases hm; exact hK
set_option maxHeartbeats 4000000 in
set_option maxRecDepth 100000 in
theorem tb_X12_isSpared_2 (X : gX p s m args meth c D cy B (gSt Z B H0) RX12 cX12_isSpared wsX12_isSpared 6) (hr : meth.sig.returnType = (some .boolean)) {Q : State → Prop} : ∀ (M : gMem) (x0 : Nat) (x1 : Int32) (x2 : Int32) (x3 : Int32) (z : (gMem × Int32) ⊕ (Int32 × gMem)), bb_X12_isSpared_2 M x0 x1 x2 x3 = some z → (Sum.elim (fun (q : gMem × Int32) => gGo p l e rX12_isSpared s m args below meth c D cy B H0 6 0 0 Q 2 [(0, vR (some x0)), (1, vI x1), (2, vI x2), (3, vI q.2)] [] q.1) (fun (r : Int32 × gMem) => Q = gMQ below D cy B H0 args s 0 0 (some (vI r.1)) r.2)) z → gGo p l e rX12_isSpared s m args below meth c D cy B H0 6 0 0 Q 2 [(0, vR (some x0)), (1, vI x1), (2, vI x2), (3, vI x3)] [] M := by
  intro M x0 x1 x2 x3 z hf hK
  unfold bb_X12_isSpared_2 at hf
  refine g_iload_n X dX12_isSpared_2 rfl rfl ?_
  refine g_aload_n X dX12_isSpared_3 rfl rfl ?_
  obtain ⟨hT33, hf⟩ := ck_e hf
  refine g_get (ci := 10) (v := vR (mR M x0 18)) 18 X cdX12 i_X12_isSpared_X12 (by decide) k_X12_isSpared_f3 rfl dX12_isSpared_4 rfl hT33 rfl ?_
  obtain ⟨a34, ha34, hf⟩ := dr_e hf
  obtain ⟨hT35, hf⟩ := ck_e hf
  refine g_getN (ci := 12) (w := vR (mR M a34 11)) 11 X cdX14 i_X12_isSpared_X14 (by decide) (gNw X _ kn_X12_81) rfl dX12_isSpared_7 ha34 hT35 rfl ?_
  obtain ⟨a36, ha36, hf⟩ := dr_e hf
  obtain ⟨hT37, hf⟩ := ck_e hf
  refine g_getN (ci := 11) (w := vI (mI M a36 11)) 11 X cdX13 i_X12_isSpared_X13 (by decide) (gNw X _ kn_X12_113) rfl dX12_isSpared_10 ha36 hT37 rfl ?_
  refine g_icmp_ge (tgt := 142) X dX12_isSpared_13 (by decide) (fun hc => ?_) (fun hc => ?_)
  · have hf := ife_t hc hf
    refine g_iconst (v := (0 : Int32)) X dX12_isSpared_142 (by decide) ?_
    obtain ⟨w38, hw38, hz38⟩ := oI_e hf
    subst hz38
    have hf := hw38
    cases hf
    refine g_eqQ hK ?_
    exact g_zret X hr (gnb (Or.inl rfl)) dX12_isSpared_143
  · have hf := ife_f hc hf
    refine g_iconst (v := (0 : Int32)) X dX12_isSpared_16 (by decide) ?_
    refine g_istore (lv' := [(4, vI (0 : Int32)), (0, vR (some x0)), (1, vI x1), (2, vI x2), (3, vI x3)]) X dX12_isSpared_17 (by decide) rfl ?_
    refine g_iconst (v := (0 : Int32)) X dX12_isSpared_19 (by decide) ?_
    refine g_istore (lv' := [(5, vI (0 : Int32)), (4, vI (0 : Int32)), (0, vR (some x0)), (1, vI x1), (2, vI x2), (3, vI x3)]) X dX12_isSpared_20 (by decide) rfl ?_
    refine g_sub (lvsub_of _ _ [2, 3, 4, 5, 1, 0] rfl) ?_
    exact tl_X12_isSpared_22 X hr _ _ _ _ _ _ _ _ hf hK
set_option maxHeartbeats 4000000 in
set_option maxRecDepth 100000 in
theorem tl_X12_isSpared_2 (X : gX p s m args meth c D cy B (gSt Z B H0) RX12 cX12_isSpared wsX12_isSpared 6) (hr : meth.sig.returnType = (some .boolean)) {Q : State → Prop} : ∀ (M : gMem) (x0 : Nat) (x1 : Int32) (x2 : Int32) (x3 : Int32) (z : Int32 × gMem), lp_X12_isSpared_2 M x0 x1 x2 x3 = some z → (fun (r : Int32 × gMem) => Q = gMQ below D cy B H0 args s 0 0 (some (vI r.1)) r.2) z → gGo p l e rX12_isSpared s m args below meth c D cy B H0 6 0 0 Q 2 [(0, vR (some x0)), (1, vI x1), (2, vI x2), (3, vI x3)] [] M := by
  intro M x0 x1 x2 x3 z hf hK
  refine lp_ind (P := (fun (q : gMem × Int32) (z : Int32 × gMem) => (fun (r : Int32 × gMem) => Q = gMQ below D cy B H0 args s 0 0 (some (vI r.1)) r.2) z → gGo p l e rX12_isSpared s m args below meth c D cy B H0 6 0 0 Q 2 [(0, vR (some x0)), (1, vI x1), (2, vI x2), (3, vI q.2)] [] q.1)) (fun q z hq => ?_) _ _ hf hK
  intro hK
  obtain ⟨w, hw, hm⟩ := hq
  refine tb_X12_isSpared_2 X hr _ _ _ _ _ w hw ?_
  cases w with
  | inl a => exact hm hK
  | inr b => cases hm; exact hK
set_option maxHeartbeats 4000000 in
set_option maxRecDepth 100000 in
theorem t_X12_isSpared_0 (X : gX p s m args meth c D cy B (gSt Z B H0) RX12 cX12_isSpared wsX12_isSpared 6) (hr : meth.sig.returnType = (some .boolean)) {Q : State → Prop} : ∀ (M : gMem) (x0 : Nat) (x1 : Int32) (x2 : Int32) (z : Int32 × gMem), b_X12_isSpared_0 M x0 x1 x2 = some z → (fun (r : Int32 × gMem) => Q = gMQ below D cy B H0 args s 0 0 (some (vI r.1)) r.2) z → gGo p l e rX12_isSpared s m args below meth c D cy B H0 6 0 0 Q 0 [(0, vR (some x0)), (1, vI x1), (2, vI x2)] [] M := by
  intro M x0 x1 x2 z hf hK
  unfold b_X12_isSpared_0 at hf
  refine g_iconst (v := (0 : Int32)) X dX12_isSpared_0 (by decide) ?_
  refine g_istore_n (lv' := [(3, vI (0 : Int32)), (0, vR (some x0)), (1, vI x1), (2, vI x2)]) X dX12_isSpared_1 rfl (by decide) rfl ?_
  refine g_sub (lvsub_of _ _ [1, 2, 3, 0] rfl) ?_
  exact tl_X12_isSpared_2 X hr _ _ _ _ _ _ hf hK
set_option maxHeartbeats 4000000 in
set_option maxRecDepth 100000 in
theorem m_X12_isSpared (l : Launch) {D : va_G} {cy : Nat → ClassId} {B : Nat} {H0 : Heap} {Z : Nat → Nat} {M M1 : gMem} {x0 : Nat} {x1 : Int32} {x2 : Int32} {r : Int32} (hf : f_X12_isSpared M x0 x1 x2 = some (r, M1)) : Met l yX12_isSpared wsX12_isSpared rX12_isSpared (va_Pc (Value.ref x0 :: List.map gv [vI x1, vI x2]) (gPre D cy B H0 (gSt Z B H0) M)) (gQ D cy B H0 (some (vI r)) M1) 0 0 (gA B) := by
  refine Met.ofW (cc := cX12_isSpared) (maxL := 6) (ret := (some .boolean)) (by decide) rfl ?_
  intro p e s m args below meth c s₁ Bd hml hv
  obtain ⟨rfl, hW, hKK, hFs⟩ := hv
  have X : gX p s m _ meth c D cy B (gSt Z B H0) RX12 cX12_isSpared wsX12_isSpared 6 := ⟨Bd.exec, Bd.bytes, atoms_spec (ws := wsX12_isSpared) Bd.pre, findClass_of_methodNamed Bd.named, hml, hKK, by rw [hW.1]; exact hW.2.1, Bd.notSynchronized, hFs⟩
  have hr := Bd.returns
  have hl := lv_entry ([.ref x0, .int x1, .int x2]) (n := 6) (Nat.le_of_ble_eq_true rfl)
  show W p l e rX12_isSpared s m _ below meth c s.heap [] 0 0 _ (entryFrame m ([.ref x0, .int x1, .int x2] : List Value).toArray 6)
  rw [lg_entry_eq]
  generalize (lg_sl ([.ref x0, .int x1, .int x2]) ++ List.replicate (6 - (lg_sl ([.ref x0, .int x1, .int x2])).length) Slot.unset).toArray = ls at hl ⊢
  have hl : lv_has ls 6 (List.map gq [(0, vR (some x0)), (1, vI x1), (2, vI x2)]) := hl
  exact t_X12_isSpared_0 X hr _ _ _ _ _ hf rfl s.heap [] ls hW va_S.rf (lv_has_sub hl (lvsub_of _ _ [0, 1, 2] rfl))
/-! ## TideLotsModel$State.canGo(II)Z -/
theorem dX12_canGo_0 : decode cX12_canGo 0 = .ok (.aload_n 0, 1) := by decide +kernel
theorem dX12_canGo_1 : decode cX12_canGo 1 = .ok (.getfield 3, 3) := by decide +kernel
theorem dX12_canGo_4 : decode cX12_canGo 4 = .ok (.getfield 81, 3) := by decide +kernel
theorem dX12_canGo_7 : decode cX12_canGo 7 = .ok (.getfield 138, 3) := by decide +kernel
theorem dX12_canGo_10 : decode cX12_canGo 10 = .ok (.iload_n 2, 1) := by decide +kernel
theorem dX12_canGo_11 : decode cX12_canGo 11 = .ok (.iaload, 1) := by decide +kernel
theorem dX12_canGo_12 : decode cX12_canGo 12 = .ok (.istore_n 3, 1) := by decide +kernel
theorem dX12_canGo_13 : decode cX12_canGo 13 = .ok (.aload_n 0, 1) := by decide +kernel
theorem dX12_canGo_14 : decode cX12_canGo 14 = .ok (.getfield 23, 3) := by decide +kernel
theorem dX12_canGo_17 : decode cX12_canGo 17 = .ok (.iload_n 3, 1) := by decide +kernel
theorem dX12_canGo_18 : decode cX12_canGo 18 = .ok (.iaload, 1) := by decide +kernel
theorem dX12_canGo_19 : decode cX12_canGo 19 = .ok (.aload_n 0, 1) := by decide +kernel
theorem dX12_canGo_20 : decode cX12_canGo 20 = .ok (.getfield 3, 3) := by decide +kernel
theorem dX12_canGo_23 : decode cX12_canGo 23 = .ok (.getfield 81, 3) := by decide +kernel
theorem dX12_canGo_26 : decode cX12_canGo 26 = .ok (.getfield 145, 3) := by decide +kernel
theorem dX12_canGo_29 : decode cX12_canGo 29 = .ok (.iload_n 3, 1) := by decide +kernel
theorem dX12_canGo_30 : decode cX12_canGo 30 = .ok (.iaload, 1) := by decide +kernel
theorem dX12_canGo_31 : decode cX12_canGo 31 = .ok (.if_icmp .lt 5, 3) := by decide +kernel
theorem dX12_canGo_34 : decode cX12_canGo 34 = .ok (.iconst 0, 1) := by decide +kernel
theorem dX12_canGo_35 : decode cX12_canGo 35 = .ok (.ireturn, 1) := by decide +kernel
theorem dX12_canGo_36 : decode cX12_canGo 36 = .ok (.aload_n 0, 1) := by decide +kernel
theorem dX12_canGo_37 : decode cX12_canGo 37 = .ok (.getfield 3, 3) := by decide +kernel
theorem dX12_canGo_40 : decode cX12_canGo 40 = .ok (.getfield 81, 3) := by decide +kernel
theorem dX12_canGo_43 : decode cX12_canGo 43 = .ok (.getfield 148, 3) := by decide +kernel
theorem dX12_canGo_46 : decode cX12_canGo 46 = .ok (.iload_n 2, 1) := by decide +kernel
theorem dX12_canGo_47 : decode cX12_canGo 47 = .ok (.iaload, 1) := by decide +kernel
theorem dX12_canGo_48 : decode cX12_canGo 48 = .ok (.aload_n 0, 1) := by decide +kernel
theorem dX12_canGo_49 : decode cX12_canGo 49 = .ok (.getfield 3, 3) := by decide +kernel
theorem dX12_canGo_52 : decode cX12_canGo 52 = .ok (.getfield 81, 3) := by decide +kernel
theorem dX12_canGo_55 : decode cX12_canGo 55 = .ok (.getfield 151, 3) := by decide +kernel
theorem dX12_canGo_58 : decode cX12_canGo 58 = .ok (.iload_n 2, 1) := by decide +kernel
theorem dX12_canGo_59 : decode cX12_canGo 59 = .ok (.iaload, 1) := by decide +kernel
theorem dX12_canGo_60 : decode cX12_canGo 60 = .ok (.if_icmp .le 36, 3) := by decide +kernel
theorem dX12_canGo_63 : decode cX12_canGo 63 = .ok (.aload_n 0, 1) := by decide +kernel
theorem dX12_canGo_64 : decode cX12_canGo 64 = .ok (.aload_n 0, 1) := by decide +kernel
theorem dX12_canGo_65 : decode cX12_canGo 65 = .ok (.getfield 3, 3) := by decide +kernel
theorem dX12_canGo_68 : decode cX12_canGo 68 = .ok (.getfield 81, 3) := by decide +kernel
theorem dX12_canGo_71 : decode cX12_canGo 71 = .ok (.getfield 151, 3) := by decide +kernel
theorem dX12_canGo_74 : decode cX12_canGo 74 = .ok (.iload_n 2, 1) := by decide +kernel
theorem dX12_canGo_75 : decode cX12_canGo 75 = .ok (.iaload, 1) := by decide +kernel
theorem dX12_canGo_76 : decode cX12_canGo 76 = .ok (.aload_n 0, 1) := by decide +kernel
theorem dX12_canGo_77 : decode cX12_canGo 77 = .ok (.getfield 3, 3) := by decide +kernel
theorem dX12_canGo_80 : decode cX12_canGo 80 = .ok (.getfield 81, 3) := by decide +kernel
theorem dX12_canGo_83 : decode cX12_canGo 83 = .ok (.getfield 148, 3) := by decide +kernel
theorem dX12_canGo_86 : decode cX12_canGo 86 = .ok (.iload_n 2, 1) := by decide +kernel
theorem dX12_canGo_87 : decode cX12_canGo 87 = .ok (.iaload, 1) := by decide +kernel
theorem dX12_canGo_88 : decode cX12_canGo 88 = .ok (.invokevirtual 154, 3) := by decide +kernel
theorem dX12_canGo_91 : decode cX12_canGo 91 = .ok (.ifCond .ne 5, 3) := by decide +kernel
theorem dX12_canGo_94 : decode cX12_canGo 94 = .ok (.iconst 0, 1) := by decide +kernel
theorem dX12_canGo_95 : decode cX12_canGo 95 = .ok (.ireturn, 1) := by decide +kernel
theorem dX12_canGo_96 : decode cX12_canGo 96 = .ok (.aload_n 0, 1) := by decide +kernel
theorem dX12_canGo_97 : decode cX12_canGo 97 = .ok (.getfield 44, 3) := by decide +kernel
theorem dX12_canGo_100 : decode cX12_canGo 100 = .ok (.iload_n 1, 1) := by decide +kernel
theorem dX12_canGo_101 : decode cX12_canGo 101 = .ok (.iaload, 1) := by decide +kernel
theorem dX12_canGo_102 : decode cX12_canGo 102 = .ok (.iconst 1, 1) := by decide +kernel
theorem dX12_canGo_103 : decode cX12_canGo 103 = .ok (.if_icmp .eq 12, 3) := by decide +kernel
theorem dX12_canGo_106 : decode cX12_canGo 106 = .ok (.aload_n 0, 1) := by decide +kernel
theorem dX12_canGo_107 : decode cX12_canGo 107 = .ok (.iload_n 1, 1) := by decide +kernel
theorem dX12_canGo_108 : decode cX12_canGo 108 = .ok (.iload_n 3, 1) := by decide +kernel
theorem dX12_canGo_109 : decode cX12_canGo 109 = .ok (.invokevirtual 157, 3) := by decide +kernel
theorem dX12_canGo_112 : decode cX12_canGo 112 = .ok (.ifCond .ne 7, 3) := by decide +kernel
theorem dX12_canGo_115 : decode cX12_canGo 115 = .ok (.iconst 1, 1) := by decide +kernel
theorem dX12_canGo_116 : decode cX12_canGo 116 = .ok (.goto 4, 3) := by decide +kernel
theorem dX12_canGo_119 : decode cX12_canGo 119 = .ok (.iconst 0, 1) := by decide +kernel
theorem dX12_canGo_120 : decode cX12_canGo 120 = .ok (.ireturn, 1) := by decide +kernel
set_option maxRecDepth 20000 in
theorem ggX12_canGo_X12_isSpared : GoodIn wsX12_canGo wsX12_isSpared := goodIn_r _ [41, 1, 24, 25, 26, 7, 27, 28, 4, 5, 6, 8, 9, 10, 11, 12, 13, 14, 15, 16, 17, 18, 19, 20, 21, 22, 23, 2, 3, 29, 30, 31, 32, 33, 34, 35, 36, 37, 42, 43, 44, 45, 46, 47, 48, 49, 50, 51, 52, 53, 54, 55, 56, 57, 58, 59, 60, 61, 62, 63, 64, 65, 66, 67, 68, 69, 70, 71, 72, 73, 74, 75, 76, 77, 78, 79, 80, 81, 82, 83, 84, 85, 86, 87, 88, 89, 90, 91, 92, 93, 94, 95, 96, 97, 98, 99, 100] (by decide +kernel) (by decide +kernel)
set_option maxRecDepth 20000 in
theorem gX12_canGo_X12_isSpared : GoodIn wsX12_canGo (wsV RX12 157 RX12 yX12_isSpared wsX12_isSpared) := goodIn_app (goodIn_of _ (by decide +kernel)) ggX12_canGo_X12_isSpared
set_option maxRecDepth 20000 in
theorem ggX12_canGo_X12_carryOut : GoodIn wsX12_canGo wsX12_carryOut := goodIn_r _ [8, 1, 9, 10, 11, 12, 13, 14, 15, 16, 17, 18, 19, 7, 20, 21, 22, 23, 2, 3, 24, 25, 26, 27, 28, 29, 30, 31, 32, 33, 34, 35, 36, 37, 42, 43, 44, 45, 46, 47, 48, 49, 50, 51, 52, 53, 54, 55, 56, 57, 58, 59, 60, 61, 62, 63, 64, 65, 66, 67, 68, 69, 70, 71, 72, 73, 74, 75, 76, 77, 78, 79, 80, 81, 82, 83, 84, 85, 86, 87, 88, 89, 90, 91, 92, 93, 94, 95, 96, 97, 98, 99, 100] (by decide +kernel) (by decide +kernel)
set_option maxRecDepth 20000 in
theorem gX12_canGo_X12_carryOut : GoodIn wsX12_canGo (wsV RX12 154 RX12 yX12_carryOut wsX12_carryOut) := goodIn_app (goodIn_of _ (by decide +kernel)) ggX12_canGo_X12_carryOut
theorem k_X12_canGo_f44 : Cond.fieldLink RX12 44 "TideLotsModel$State" "cheats" "[I" ∈ wsX12_canGo := by decide +kernel
theorem i_X12_canGo_X12 : ∀ w ∈ u_ws RX12 TX12 19, w ∈ wsX12_canGo := by decide +kernel
theorem k_X12_canGo_f3 : Cond.fieldLink RX12 3 "TideLotsModel$State" "this$0" "LTideLotsModel;" ∈ wsX12_canGo := by decide +kernel
theorem i_X12_canGo_X14 : ∀ w ∈ u_ws RX14 TX14 15, w ∈ wsX12_canGo := by decide +kernel
theorem kn_X12_138 : Cond.fieldLinkNest "TideLotsModel$State" (138 : Nat) "TideLotsModel$Told" "goal" "[I" "TideLotsModel" ∈ gNs := by decide +kernel
theorem i_X12_canGo_X13 : ∀ w ∈ u_ws RX13 TX13 25, w ∈ wsX12_canGo := by decide +kernel
theorem k_X12_canGo_f23 : Cond.fieldLink RX12 23 "TideLotsModel$State" "boats" "[I" ∈ wsX12_canGo := by decide +kernel
theorem kn_X12_145 : Cond.fieldLinkNest "TideLotsModel$State" (145 : Nat) "TideLotsModel$Told" "room" "[I" "TideLotsModel" ∈ gNs := by decide +kernel
theorem kn_X12_148 : Cond.fieldLinkNest "TideLotsModel$State" (148 : Nat) "TideLotsModel$Told" "tested" "[I" "TideLotsModel" ∈ gNs := by decide +kernel
theorem kn_X12_151 : Cond.fieldLinkNest "TideLotsModel$State" (151 : Nat) "TideLotsModel$Told" "test" "[I" "TideLotsModel" ∈ gNs := by decide +kernel
abbrev rX12_canGo : Room := { frames := 4, cells := 0, slots := 0, locals := 95 }
noncomputable def b_X12_canGo_120 (M : gMem) (s0 : Int32) : Option (Int32 × gMem) :=
  ck (s0 = 0 ∨ s0 = 1) <| some (s0, M)
noncomputable def b_X12_canGo_115 (M : gMem)  : Option (Int32 × gMem) :=
  b_X12_canGo_120 M ((1 : Int32))
noncomputable def b_X12_canGo_96 (M : gMem) (x0 : Nat) (x1 : Int32) (x3 : Int32) : Option (Int32 × gMem) :=
  ck (mT M x0 = 11) <| dr ((mR M x0 10)) fun a3 => ck (mT M a3 = 20) <| ck (inb x1 (mL M a3)) <| (if (mI M a3 x1.toNatClampNeg) = (1 : Int32) then b_X12_canGo_115 M  else bd (f_X12_isSpared M x0 x1 x3) fun r6 M6 => (if r6 = 0 then b_X12_canGo_115 M6  else b_X12_canGo_120 M6 ((0 : Int32))))
noncomputable def b_X12_canGo_0 (M : gMem) (x0 : Nat) (x1 : Int32) (x2 : Int32) : Option (Int32 × gMem) :=
  ck (mT M x0 = 11) <| dr ((mR M x0 18)) fun a8 => ck (mT M a8 = 13) <| dr ((mR M a8 11)) fun a10 => ck (mT M a10 = 12) <| dr ((mR M a10 10)) fun a12 => ck (mT M a12 = 20) <| ck (inb x2 (mL M a12)) <| dr ((mR M x0 3)) fun a15 => ck (mT M a15 = 20) <| ck (inb (mI M a12 x2.toNatClampNeg) (mL M a15)) <| dr ((mR M a10 1)) fun a18 => ck (mT M a18 = 20) <| ck (inb (mI M a12 x2.toNatClampNeg) (mL M a18)) <| (if (mI M a15 ((mI M a12 x2.toNatClampNeg)).toNatClampNeg) < (mI M a18 ((mI M a12 x2.toNatClampNeg)).toNatClampNeg) then dr ((mR M a10 18)) fun a21 => ck (mT M a21 = 20) <| ck (inb x2 (mL M a21)) <| dr ((mR M a10 17)) fun a24 => ck (mT M a24 = 20) <| ck (inb x2 (mL M a24)) <| (if (mI M a21 x2.toNatClampNeg) ≤ (mI M a24 x2.toNatClampNeg) then b_X12_canGo_96 M x0 x1 ((mI M a12 x2.toNatClampNeg)) else ck (inb x2 (mL M a24)) <| ck (inb x2 (mL M a21)) <| bd (f_X12_carryOut M x0 ((mI M a24 x2.toNatClampNeg)) ((mI M a21 x2.toNatClampNeg))) fun r29 M29 => (if r29 = 0 then some ((0 : Int32), M29) else b_X12_canGo_96 M29 x0 x1 ((mI M a12 x2.toNatClampNeg)))) else some ((0 : Int32), M))
noncomputable def f_X12_canGo (M : gMem) (x0 : Nat) (x1 : Int32) (x2 : Int32) : Option (Int32 × gMem) :=
  b_X12_canGo_0 M x0 x1 x2
set_option maxHeartbeats 4000000 in
set_option maxRecDepth 100000 in
theorem t_X12_canGo_120 (X : gX p s m args meth c D cy B (gSt Z B H0) RX12 cX12_canGo wsX12_canGo 4) (hr : meth.sig.returnType = (some .boolean)) {Q : State → Prop} : ∀ (M : gMem) (s0 : Int32) (z : Int32 × gMem), b_X12_canGo_120 M s0 = some z → (fun (r : Int32 × gMem) => Q = gMQ below D cy B H0 args s 0 0 (some (vI r.1)) r.2) z → gGo p l e rX12_canGo s m args below meth c D cy B H0 4 0 0 Q 120 [] [vI s0] M := by
  intro M s0 z hf hK
  unfold b_X12_canGo_120 at hf
  obtain ⟨hg1, hf⟩ := ck_e hf
  cases hf
  refine g_eqQ hK ?_
  exact g_zret X hr (gnb hg1) dX12_canGo_120
set_option maxHeartbeats 4000000 in
set_option maxRecDepth 100000 in
theorem t_X12_canGo_115 (X : gX p s m args meth c D cy B (gSt Z B H0) RX12 cX12_canGo wsX12_canGo 4) (hr : meth.sig.returnType = (some .boolean)) {Q : State → Prop} : ∀ (M : gMem)  (z : Int32 × gMem), b_X12_canGo_115 M  = some z → (fun (r : Int32 × gMem) => Q = gMQ below D cy B H0 args s 0 0 (some (vI r.1)) r.2) z → gGo p l e rX12_canGo s m args below meth c D cy B H0 4 0 0 Q 115 [] [] M := by
  intro M  z hf hK
  unfold b_X12_canGo_115 at hf
  refine g_iconst (v := (1 : Int32)) X dX12_canGo_115 (by decide) ?_
  refine g_goto (tgt := 120) X dX12_canGo_116 (by decide) ?_
  refine g_sub (lvsub_of _ _ [] rfl) ?_
  exact t_X12_canGo_120 X hr _ _ _ hf hK
set_option maxHeartbeats 4000000 in
set_option maxRecDepth 100000 in
theorem t_X12_canGo_96 (X : gX p s m args meth c D cy B (gSt Z B H0) RX12 cX12_canGo wsX12_canGo 4) (hr : meth.sig.returnType = (some .boolean)) {Q : State → Prop} : ∀ (M : gMem) (x0 : Nat) (x1 : Int32) (x3 : Int32) (z : Int32 × gMem), b_X12_canGo_96 M x0 x1 x3 = some z → (fun (r : Int32 × gMem) => Q = gMQ below D cy B H0 args s 0 0 (some (vI r.1)) r.2) z → gGo p l e rX12_canGo s m args below meth c D cy B H0 4 0 0 Q 96 [(0, vR (some x0)), (1, vI x1), (3, vI x3)] [] M := by
  intro M x0 x1 x3 z hf hK
  unfold b_X12_canGo_96 at hf
  refine g_aload_n X dX12_canGo_96 rfl rfl ?_
  obtain ⟨hT2, hf⟩ := ck_e hf
  refine g_get (ci := 10) (v := vR (mR M x0 10)) 10 X cdX12 i_X12_canGo_X12 (by decide) k_X12_canGo_f44 rfl dX12_canGo_97 rfl hT2 rfl ?_
  refine g_iload_n X dX12_canGo_100 rfl rfl ?_
  obtain ⟨a3, ha3, hf⟩ := dr_e hf
  obtain ⟨hT4, hf⟩ := ck_e hf
  obtain ⟨hg5, hf⟩ := ck_e hf
  refine g_iald X dX12_canGo_101 ha3 hT4 hg5 ?_
  refine g_iconst (v := (1 : Int32)) X dX12_canGo_102 (by decide) ?_
  refine g_icmp_eq (tgt := 115) X dX12_canGo_103 (by decide) (fun hc => ?_) (fun hc => ?_)
  · have hf := ife_t hc hf
    refine g_sub (lvsub_of _ _ [] rfl) ?_
    exact t_X12_canGo_115 X hr _  _ hf hK
  · have hf := ife_f hc hf
    refine g_aload_n X dX12_canGo_106 rfl rfl ?_
    refine g_iload_n X dX12_canGo_107 rfl rfl ?_
    refine g_iload_n X dX12_canGo_108 rfl rfl ?_
    obtain ⟨r6, M6, hq6, hf⟩ := bd_e hf
    refine g_callV (ci := 10) (b := x0) (As := [vI x1, vI x3]) (st := []) (v := some (vI r6)) (M1 := M6) X (m_X12_isSpared l hq6) (cwV 2 X.2.2.1 gX12_canGo_X12_isSpared rfl rfl rfl (by decide +kernel) ⟨Nat.le_of_ble_eq_true rfl, Nat.le_of_ble_eq_true rfl⟩) rfl rfl rfl hT2 (by decide) rfl (Nat.le_of_ble_eq_true rfl) dX12_canGo_109 ⟨by decide, by decide⟩ ?_
    refine g_if_ne (tgt := 119) X dX12_canGo_112 (by decide) (fun hc => ?_) (fun hc => ?_)
    · have hf := ife_f hc hf
      refine g_iconst (v := (0 : Int32)) X dX12_canGo_119 (by decide) ?_
      refine g_sub (lvsub_of _ _ [] rfl) ?_
      exact t_X12_canGo_120 X hr _ _ _ hf hK
    · have hf := ife_t hc hf
      refine g_sub (lvsub_of _ _ [] rfl) ?_
      exact t_X12_canGo_115 X hr _  _ hf hK
set_option maxHeartbeats 4000000 in
set_option maxRecDepth 100000 in
theorem t_X12_canGo_0 (X : gX p s m args meth c D cy B (gSt Z B H0) RX12 cX12_canGo wsX12_canGo 4) (hr : meth.sig.returnType = (some .boolean)) {Q : State → Prop} : ∀ (M : gMem) (x0 : Nat) (x1 : Int32) (x2 : Int32) (z : Int32 × gMem), b_X12_canGo_0 M x0 x1 x2 = some z → (fun (r : Int32 × gMem) => Q = gMQ below D cy B H0 args s 0 0 (some (vI r.1)) r.2) z → gGo p l e rX12_canGo s m args below meth c D cy B H0 4 0 0 Q 0 [(0, vR (some x0)), (1, vI x1), (2, vI x2)] [] M := by
  intro M x0 x1 x2 z hf hK
  unfold b_X12_canGo_0 at hf
  refine g_aload_n X dX12_canGo_0 rfl rfl ?_
  obtain ⟨hT7, hf⟩ := ck_e hf
  refine g_get (ci := 10) (v := vR (mR M x0 18)) 18 X cdX12 i_X12_canGo_X12 (by decide) k_X12_canGo_f3 rfl dX12_canGo_1 rfl hT7 rfl ?_
  obtain ⟨a8, ha8, hf⟩ := dr_e hf
  obtain ⟨hT9, hf⟩ := ck_e hf
  refine g_getN (ci := 12) (w := vR (mR M a8 11)) 11 X cdX14 i_X12_canGo_X14 (by decide) (gNw X _ kn_X12_81) rfl dX12_canGo_4 ha8 hT9 rfl ?_
  obtain ⟨a10, ha10, hf⟩ := dr_e hf
  obtain ⟨hT11, hf⟩ := ck_e hf
  refine g_getN (ci := 11) (w := vR (mR M a10 10)) 10 X cdX13 i_X12_canGo_X13 (by decide) (gNw X _ kn_X12_138) rfl dX12_canGo_7 ha10 hT11 rfl ?_
  refine g_iload_n X dX12_canGo_10 rfl rfl ?_
  obtain ⟨a12, ha12, hf⟩ := dr_e hf
  obtain ⟨hT13, hf⟩ := ck_e hf
  obtain ⟨hg14, hf⟩ := ck_e hf
  refine g_iald X dX12_canGo_11 ha12 hT13 hg14 ?_
  refine g_istore_n (lv' := [(3, vI (mI M a12 x2.toNatClampNeg)), (0, vR (some x0)), (1, vI x1), (2, vI x2)]) X dX12_canGo_12 rfl (by decide) rfl ?_
  refine g_aload_n X dX12_canGo_13 rfl rfl ?_
  refine g_get (ci := 10) (v := vR (mR M x0 3)) 3 X cdX12 i_X12_canGo_X12 (by decide) k_X12_canGo_f23 rfl dX12_canGo_14 rfl hT7 rfl ?_
  refine g_iload_n X dX12_canGo_17 rfl rfl ?_
  obtain ⟨a15, ha15, hf⟩ := dr_e hf
  obtain ⟨hT16, hf⟩ := ck_e hf
  obtain ⟨hg17, hf⟩ := ck_e hf
  refine g_iald X dX12_canGo_18 ha15 hT16 hg17 ?_
  refine g_aload_n X dX12_canGo_19 rfl rfl ?_
  refine g_get (ci := 10) (v := vR (mR M x0 18)) 18 X cdX12 i_X12_canGo_X12 (by decide) k_X12_canGo_f3 rfl dX12_canGo_20 rfl hT7 rfl ?_
  refine g_getN (ci := 12) (w := vR (mR M a8 11)) 11 X cdX14 i_X12_canGo_X14 (by decide) (gNw X _ kn_X12_81) rfl dX12_canGo_23 ha8 hT9 rfl ?_
  refine g_getN (ci := 11) (w := vR (mR M a10 1)) 1 X cdX13 i_X12_canGo_X13 (by decide) (gNw X _ kn_X12_145) rfl dX12_canGo_26 ha10 hT11 rfl ?_
  refine g_iload_n X dX12_canGo_29 rfl rfl ?_
  obtain ⟨a18, ha18, hf⟩ := dr_e hf
  obtain ⟨hT19, hf⟩ := ck_e hf
  obtain ⟨hg20, hf⟩ := ck_e hf
  refine g_iald X dX12_canGo_30 ha18 hT19 hg20 ?_
  refine g_icmp_lt (tgt := 36) X dX12_canGo_31 (by decide) (fun hc => ?_) (fun hc => ?_)
  · have hf := ife_t hc hf
    refine g_aload_n X dX12_canGo_36 rfl rfl ?_
    refine g_get (ci := 10) (v := vR (mR M x0 18)) 18 X cdX12 i_X12_canGo_X12 (by decide) k_X12_canGo_f3 rfl dX12_canGo_37 rfl hT7 rfl ?_
    refine g_getN (ci := 12) (w := vR (mR M a8 11)) 11 X cdX14 i_X12_canGo_X14 (by decide) (gNw X _ kn_X12_81) rfl dX12_canGo_40 ha8 hT9 rfl ?_
    refine g_getN (ci := 11) (w := vR (mR M a10 18)) 18 X cdX13 i_X12_canGo_X13 (by decide) (gNw X _ kn_X12_148) rfl dX12_canGo_43 ha10 hT11 rfl ?_
    refine g_iload_n X dX12_canGo_46 rfl rfl ?_
    obtain ⟨a21, ha21, hf⟩ := dr_e hf
    obtain ⟨hT22, hf⟩ := ck_e hf
    obtain ⟨hg23, hf⟩ := ck_e hf
    refine g_iald X dX12_canGo_47 ha21 hT22 hg23 ?_
    refine g_aload_n X dX12_canGo_48 rfl rfl ?_
    refine g_get (ci := 10) (v := vR (mR M x0 18)) 18 X cdX12 i_X12_canGo_X12 (by decide) k_X12_canGo_f3 rfl dX12_canGo_49 rfl hT7 rfl ?_
    refine g_getN (ci := 12) (w := vR (mR M a8 11)) 11 X cdX14 i_X12_canGo_X14 (by decide) (gNw X _ kn_X12_81) rfl dX12_canGo_52 ha8 hT9 rfl ?_
    refine g_getN (ci := 11) (w := vR (mR M a10 17)) 17 X cdX13 i_X12_canGo_X13 (by decide) (gNw X _ kn_X12_151) rfl dX12_canGo_55 ha10 hT11 rfl ?_
    refine g_iload_n X dX12_canGo_58 rfl rfl ?_
    obtain ⟨a24, ha24, hf⟩ := dr_e hf
    obtain ⟨hT25, hf⟩ := ck_e hf
    obtain ⟨hg26, hf⟩ := ck_e hf
    refine g_iald X dX12_canGo_59 ha24 hT25 hg26 ?_
    refine g_icmp_le (tgt := 96) X dX12_canGo_60 (by decide) (fun hc => ?_) (fun hc => ?_)
    · have hf := ife_t hc hf
      refine g_sub (lvsub_of _ _ [1, 2, 0] rfl) ?_
      exact t_X12_canGo_96 X hr _ _ _ _ _ hf hK
    · have hf := ife_f hc hf
      refine g_aload_n X dX12_canGo_63 rfl rfl ?_
      refine g_aload_n X dX12_canGo_64 rfl rfl ?_
      refine g_get (ci := 10) (v := vR (mR M x0 18)) 18 X cdX12 i_X12_canGo_X12 (by decide) k_X12_canGo_f3 rfl dX12_canGo_65 rfl hT7 rfl ?_
      refine g_getN (ci := 12) (w := vR (mR M a8 11)) 11 X cdX14 i_X12_canGo_X14 (by decide) (gNw X _ kn_X12_81) rfl dX12_canGo_68 ha8 hT9 rfl ?_
      refine g_getN (ci := 11) (w := vR (mR M a10 17)) 17 X cdX13 i_X12_canGo_X13 (by decide) (gNw X _ kn_X12_151) rfl dX12_canGo_71 ha10 hT11 rfl ?_
      refine g_iload_n X dX12_canGo_74 rfl rfl ?_
      obtain ⟨hg27, hf⟩ := ck_e hf
      refine g_iald X dX12_canGo_75 ha24 hT25 hg27 ?_
      refine g_aload_n X dX12_canGo_76 rfl rfl ?_
      refine g_get (ci := 10) (v := vR (mR M x0 18)) 18 X cdX12 i_X12_canGo_X12 (by decide) k_X12_canGo_f3 rfl dX12_canGo_77 rfl hT7 rfl ?_
      refine g_getN (ci := 12) (w := vR (mR M a8 11)) 11 X cdX14 i_X12_canGo_X14 (by decide) (gNw X _ kn_X12_81) rfl dX12_canGo_80 ha8 hT9 rfl ?_
      refine g_getN (ci := 11) (w := vR (mR M a10 18)) 18 X cdX13 i_X12_canGo_X13 (by decide) (gNw X _ kn_X12_148) rfl dX12_canGo_83 ha10 hT11 rfl ?_
      refine g_iload_n X dX12_canGo_86 rfl rfl ?_
      obtain ⟨hg28, hf⟩ := ck_e hf
      refine g_iald X dX12_canGo_87 ha21 hT22 hg28 ?_
      obtain ⟨r29, M29, hq29, hf⟩ := bd_e hf
      refine g_callV (ci := 10) (b := x0) (As := [vI (mI M a24 x2.toNatClampNeg), vI (mI M a21 x2.toNatClampNeg)]) (st := []) (v := some (vI r29)) (M1 := M29) X (m_X12_carryOut l hq29) (cwV 2 X.2.2.1 gX12_canGo_X12_carryOut rfl rfl rfl (by decide +kernel) ⟨Nat.le_of_ble_eq_true rfl, Nat.le_of_ble_eq_true rfl⟩) rfl rfl rfl hT7 (by decide) rfl (Nat.le_of_ble_eq_true rfl) dX12_canGo_88 ⟨by decide, by decide⟩ ?_
      refine g_if_ne (tgt := 96) X dX12_canGo_91 (by decide) (fun hc => ?_) (fun hc => ?_)
      · have hf := ife_f hc hf
        refine g_sub (lvsub_of _ _ [1, 2, 0] rfl) ?_
        exact t_X12_canGo_96 X hr _ _ _ _ _ hf hK
      · have hf := ife_t hc hf
        refine g_iconst (v := (0 : Int32)) X dX12_canGo_94 (by decide) ?_
        cases hf
        refine g_eqQ hK ?_
        exact g_zret X hr (gnb (Or.inl rfl)) dX12_canGo_95
  · have hf := ife_f hc hf
    refine g_iconst (v := (0 : Int32)) X dX12_canGo_34 (by decide) ?_
    cases hf
    refine g_eqQ hK ?_
    exact g_zret X hr (gnb (Or.inl rfl)) dX12_canGo_35
set_option maxHeartbeats 4000000 in
set_option maxRecDepth 100000 in
theorem m_X12_canGo (l : Launch) {D : va_G} {cy : Nat → ClassId} {B : Nat} {H0 : Heap} {Z : Nat → Nat} {M M1 : gMem} {x0 : Nat} {x1 : Int32} {x2 : Int32} {r : Int32} (hf : f_X12_canGo M x0 x1 x2 = some (r, M1)) : Met l yX12_canGo wsX12_canGo rX12_canGo (va_Pc (Value.ref x0 :: List.map gv [vI x1, vI x2]) (gPre D cy B H0 (gSt Z B H0) M)) (gQ D cy B H0 (some (vI r)) M1) 0 0 (gA B) := by
  refine Met.ofW (cc := cX12_canGo) (maxL := 4) (ret := (some .boolean)) (by decide) rfl ?_
  intro p e s m args below meth c s₁ Bd hml hv
  obtain ⟨rfl, hW, hKK, hFs⟩ := hv
  have X : gX p s m _ meth c D cy B (gSt Z B H0) RX12 cX12_canGo wsX12_canGo 4 := ⟨Bd.exec, Bd.bytes, atoms_spec (ws := wsX12_canGo) Bd.pre, findClass_of_methodNamed Bd.named, hml, hKK, by rw [hW.1]; exact hW.2.1, Bd.notSynchronized, hFs⟩
  have hr := Bd.returns
  have hl := lv_entry ([.ref x0, .int x1, .int x2]) (n := 4) (Nat.le_of_ble_eq_true rfl)
  show W p l e rX12_canGo s m _ below meth c s.heap [] 0 0 _ (entryFrame m ([.ref x0, .int x1, .int x2] : List Value).toArray 4)
  rw [lg_entry_eq]
  generalize (lg_sl ([.ref x0, .int x1, .int x2]) ++ List.replicate (4 - (lg_sl ([.ref x0, .int x1, .int x2])).length) Slot.unset).toArray = ls at hl ⊢
  have hl : lv_has ls 4 (List.map gq [(0, vR (some x0)), (1, vI x1), (2, vI x2)]) := hl
  exact t_X12_canGo_0 X hr _ _ _ _ _ hf rfl s.heap [] ls hW va_S.rf (lv_has_sub hl (lvsub_of _ _ [0, 1, 2] rfl))
/-! ## TideLotsModel$State.fisher(I)V -/
theorem dX12_fisher_0 : decode cX12_fisher 0 = .ok (.aload_n 0, 1) := by decide +kernel
theorem dX12_fisher_1 : decode cX12_fisher 1 = .ok (.getfield 38, 3) := by decide +kernel
theorem dX12_fisher_4 : decode cX12_fisher 4 = .ok (.iload_n 1, 1) := by decide +kernel
theorem dX12_fisher_5 : decode cX12_fisher 5 = .ok (.iconst (-1), 1) := by decide +kernel
theorem dX12_fisher_6 : decode cX12_fisher 6 = .ok (.iastore, 1) := by decide +kernel
theorem dX12_fisher_7 : decode cX12_fisher 7 = .ok (.iconst 0, 1) := by decide +kernel
theorem dX12_fisher_8 : decode cX12_fisher 8 = .ok (.istore_n 2, 1) := by decide +kernel
theorem dX12_fisher_9 : decode cX12_fisher 9 = .ok (.iload_n 2, 1) := by decide +kernel
theorem dX12_fisher_10 : decode cX12_fisher 10 = .ok (.aload_n 0, 1) := by decide +kernel
theorem dX12_fisher_11 : decode cX12_fisher 11 = .ok (.getfield 3, 3) := by decide +kernel
theorem dX12_fisher_14 : decode cX12_fisher 14 = .ok (.getfield 81, 3) := by decide +kernel
theorem dX12_fisher_17 : decode cX12_fisher 17 = .ok (.getfield 128, 3) := by decide +kernel
theorem dX12_fisher_20 : decode cX12_fisher 20 = .ok (.if_icmp .ge 62, 3) := by decide +kernel
theorem dX12_fisher_23 : decode cX12_fisher 23 = .ok (.aload_n 0, 1) := by decide +kernel
theorem dX12_fisher_24 : decode cX12_fisher 24 = .ok (.getfield 38, 3) := by decide +kernel
theorem dX12_fisher_27 : decode cX12_fisher 27 = .ok (.iload_n 1, 1) := by decide +kernel
theorem dX12_fisher_28 : decode cX12_fisher 28 = .ok (.iaload, 1) := by decide +kernel
theorem dX12_fisher_29 : decode cX12_fisher 29 = .ok (.iconst (-1), 1) := by decide +kernel
theorem dX12_fisher_30 : decode cX12_fisher 30 = .ok (.if_icmp .ne 52, 3) := by decide +kernel
theorem dX12_fisher_33 : decode cX12_fisher 33 = .ok (.aload_n 0, 1) := by decide +kernel
theorem dX12_fisher_34 : decode cX12_fisher 34 = .ok (.getfield 3, 3) := by decide +kernel
theorem dX12_fisher_37 : decode cX12_fisher 37 = .ok (.getfield 81, 3) := by decide +kernel
theorem dX12_fisher_40 : decode cX12_fisher 40 = .ok (.getfield 131, 3) := by decide +kernel
theorem dX12_fisher_43 : decode cX12_fisher 43 = .ok (.iload_n 2, 1) := by decide +kernel
theorem dX12_fisher_44 : decode cX12_fisher 44 = .ok (.iaload, 1) := by decide +kernel
theorem dX12_fisher_45 : decode cX12_fisher 45 = .ok (.iload_n 1, 1) := by decide +kernel
theorem dX12_fisher_46 : decode cX12_fisher 46 = .ok (.if_icmp .ne 30, 3) := by decide +kernel
theorem dX12_fisher_49 : decode cX12_fisher 49 = .ok (.aload_n 0, 1) := by decide +kernel
theorem dX12_fisher_50 : decode cX12_fisher 50 = .ok (.iload_n 1, 1) := by decide +kernel
theorem dX12_fisher_51 : decode cX12_fisher 51 = .ok (.iload_n 2, 1) := by decide +kernel
theorem dX12_fisher_52 : decode cX12_fisher 52 = .ok (.invokevirtual 134, 3) := by decide +kernel
theorem dX12_fisher_55 : decode cX12_fisher 55 = .ok (.ifCond .eq 21, 3) := by decide +kernel
theorem dX12_fisher_58 : decode cX12_fisher 58 = .ok (.aload_n 0, 1) := by decide +kernel
theorem dX12_fisher_59 : decode cX12_fisher 59 = .ok (.getfield 38, 3) := by decide +kernel
theorem dX12_fisher_62 : decode cX12_fisher 62 = .ok (.iload_n 1, 1) := by decide +kernel
theorem dX12_fisher_63 : decode cX12_fisher 63 = .ok (.aload_n 0, 1) := by decide +kernel
theorem dX12_fisher_64 : decode cX12_fisher 64 = .ok (.getfield 3, 3) := by decide +kernel
theorem dX12_fisher_67 : decode cX12_fisher 67 = .ok (.getfield 81, 3) := by decide +kernel
theorem dX12_fisher_70 : decode cX12_fisher 70 = .ok (.getfield 138, 3) := by decide +kernel
theorem dX12_fisher_73 : decode cX12_fisher 73 = .ok (.iload_n 2, 1) := by decide +kernel
theorem dX12_fisher_74 : decode cX12_fisher 74 = .ok (.iaload, 1) := by decide +kernel
theorem dX12_fisher_75 : decode cX12_fisher 75 = .ok (.iastore, 1) := by decide +kernel
theorem dX12_fisher_76 : decode cX12_fisher 76 = .ok (.iinc 2 1, 3) := by decide +kernel
theorem dX12_fisher_79 : decode cX12_fisher 79 = .ok (.goto (-70), 3) := by decide +kernel
theorem dX12_fisher_82 : decode cX12_fisher 82 = .ok (.aload_n 0, 1) := by decide +kernel
theorem dX12_fisher_83 : decode cX12_fisher 83 = .ok (.getfield 38, 3) := by decide +kernel
theorem dX12_fisher_86 : decode cX12_fisher 86 = .ok (.iload_n 1, 1) := by decide +kernel
theorem dX12_fisher_87 : decode cX12_fisher 87 = .ok (.iaload, 1) := by decide +kernel
theorem dX12_fisher_88 : decode cX12_fisher 88 = .ok (.iconst (-1), 1) := by decide +kernel
theorem dX12_fisher_89 : decode cX12_fisher 89 = .ok (.if_icmp .ne 11, 3) := by decide +kernel
theorem dX12_fisher_92 : decode cX12_fisher 92 = .ok (.aload_n 0, 1) := by decide +kernel
theorem dX12_fisher_93 : decode cX12_fisher 93 = .ok (.getfield 35, 3) := by decide +kernel
theorem dX12_fisher_96 : decode cX12_fisher 96 = .ok (.iload_n 1, 1) := by decide +kernel
theorem dX12_fisher_97 : decode cX12_fisher 97 = .ok (.iconst 0, 1) := by decide +kernel
theorem dX12_fisher_98 : decode cX12_fisher 98 = .ok (.iastore, 1) := by decide +kernel
theorem dX12_fisher_99 : decode cX12_fisher 99 = .ok (.return_, 1) := by decide +kernel
theorem dX12_fisher_100 : decode cX12_fisher 100 = .ok (.aload_n 0, 1) := by decide +kernel
theorem dX12_fisher_101 : decode cX12_fisher 101 = .ok (.getfield 23, 3) := by decide +kernel
theorem dX12_fisher_104 : decode cX12_fisher 104 = .ok (.aload_n 0, 1) := by decide +kernel
theorem dX12_fisher_105 : decode cX12_fisher 105 = .ok (.getfield 38, 3) := by decide +kernel
theorem dX12_fisher_108 : decode cX12_fisher 108 = .ok (.iload_n 1, 1) := by decide +kernel
theorem dX12_fisher_109 : decode cX12_fisher 109 = .ok (.iaload, 1) := by decide +kernel
theorem dX12_fisher_110 : decode cX12_fisher 110 = .ok (.dup2, 1) := by decide +kernel
theorem dX12_fisher_111 : decode cX12_fisher 111 = .ok (.iaload, 1) := by decide +kernel
theorem dX12_fisher_112 : decode cX12_fisher 112 = .ok (.iconst 1, 1) := by decide +kernel
theorem dX12_fisher_113 : decode cX12_fisher 113 = .ok (.iadd, 1) := by decide +kernel
theorem dX12_fisher_114 : decode cX12_fisher 114 = .ok (.iastore, 1) := by decide +kernel
theorem dX12_fisher_115 : decode cX12_fisher 115 = .ok (.aload_n 0, 1) := by decide +kernel
theorem dX12_fisher_116 : decode cX12_fisher 116 = .ok (.iload_n 1, 1) := by decide +kernel
theorem dX12_fisher_117 : decode cX12_fisher 117 = .ok (.aload_n 0, 1) := by decide +kernel
theorem dX12_fisher_118 : decode cX12_fisher 118 = .ok (.getfield 38, 3) := by decide +kernel
theorem dX12_fisher_121 : decode cX12_fisher 121 = .ok (.iload_n 1, 1) := by decide +kernel
theorem dX12_fisher_122 : decode cX12_fisher 122 = .ok (.iaload, 1) := by decide +kernel
theorem dX12_fisher_123 : decode cX12_fisher 123 = .ok (.invokevirtual 141, 3) := by decide +kernel
theorem dX12_fisher_126 : decode cX12_fisher 126 = .ok (.return_, 1) := by decide +kernel
set_option maxRecDepth 20000 in
theorem ggX12_fisher_X12_fishFor : GoodIn wsX12_fisher wsX12_fishFor := goodIn_r _ [50, 51, 28, 33, 2, 52, 37, 38, 39, 53, 3, 54, 55, 56, 57, 58, 59, 60, 61, 62, 63, 64, 65, 66, 67, 68, 69, 70, 71, 72, 73, 74, 75, 76, 77, 78, 79, 80, 81, 82, 83, 84, 85, 86, 87, 88, 89, 90, 91, 92, 93, 94, 95, 96, 97, 98, 99, 100, 101, 102, 103, 104, 105, 106, 107, 108, 109, 110, 111, 112, 113] (by decide +kernel) (by decide +kernel)
set_option maxRecDepth 20000 in
theorem gX12_fisher_X12_fishFor : GoodIn wsX12_fisher (wsV RX12 141 RX12 yX12_fishFor wsX12_fishFor) := goodIn_app (goodIn_of _ (by decide +kernel)) ggX12_fisher_X12_fishFor
set_option maxRecDepth 20000 in
theorem ggX12_fisher_X12_canGo : GoodIn wsX12_fisher wsX12_canGo := goodIn_r _ [9, 2, 4, 10, 11, 12, 13, 8, 14, 15, 16, 17, 18, 19, 20, 21, 22, 23, 24, 25, 26, 27, 3, 28, 29, 30, 31, 32, 33, 34, 35, 36, 37, 38, 39, 40, 41, 42, 43, 44, 45, 46, 55, 56, 57, 58, 59, 60, 61, 62, 63, 64, 65, 66, 67, 68, 69, 70, 71, 72, 73, 74, 75, 76, 77, 78, 79, 80, 81, 82, 83, 84, 85, 86, 87, 88, 89, 90, 91, 92, 93, 94, 95, 96, 97, 98, 99, 100, 101, 102, 103, 104, 105, 106, 107, 108, 109, 110, 111, 112, 113] (by decide +kernel) (by decide +kernel)
set_option maxRecDepth 20000 in
theorem gX12_fisher_X12_canGo : GoodIn wsX12_fisher (wsV RX12 134 RX12 yX12_canGo wsX12_canGo) := goodIn_app (goodIn_of _ (by decide +kernel)) ggX12_fisher_X12_canGo
theorem k_X12_fisher_f38 : Cond.fieldLink RX12 38 "TideLotsModel$State" "where" "[I" ∈ wsX12_fisher := by decide +kernel
theorem i_X12_fisher_X12 : ∀ w ∈ u_ws RX12 TX12 19, w ∈ wsX12_fisher := by decide +kernel
theorem k_X12_fisher_f23 : Cond.fieldLink RX12 23 "TideLotsModel$State" "boats" "[I" ∈ wsX12_fisher := by decide +kernel
theorem k_X12_fisher_f35 : Cond.fieldLink RX12 35 "TideLotsModel$State" "caught" "[I" ∈ wsX12_fisher := by decide +kernel
theorem k_X12_fisher_f3 : Cond.fieldLink RX12 3 "TideLotsModel$State" "this$0" "LTideLotsModel;" ∈ wsX12_fisher := by decide +kernel
theorem i_X12_fisher_X14 : ∀ w ∈ u_ws RX14 TX14 15, w ∈ wsX12_fisher := by decide +kernel
theorem kn_X12_128 : Cond.fieldLinkNest "TideLotsModel$State" (128 : Nat) "TideLotsModel$Told" "goes" "I" "TideLotsModel" ∈ gNs := by decide +kernel
theorem i_X12_fisher_X13 : ∀ w ∈ u_ws RX13 TX13 25, w ∈ wsX12_fisher := by decide +kernel
theorem kn_X12_131 : Cond.fieldLinkNest "TideLotsModel$State" (131 : Nat) "TideLotsModel$Told" "goer" "[I" "TideLotsModel" ∈ gNs := by decide +kernel
abbrev rX12_fisher : Room := { frames := 5, cells := 0, slots := 0, locals := 118 }
noncomputable def b_X12_fisher_82 (M : gMem) (x0 : Nat) (x1 : Int32) : Option (Unit × gMem) :=
  ck (mT M x0 = 11) <| dr ((mR M x0 8)) fun a2 => ck (mT M a2 = 20) <| ck (inb x1 (mL M a2)) <| (if (mI M a2 x1.toNatClampNeg) = (-1 : Int32) then dr ((mR M x0 7)) fun a18 => ck (mT M a18 = 20) <| ck (inb x1 (mL M a18)) <| lw (wI M a18 x1.toNatClampNeg ((0 : Int32))) fun M21 => some ((), M21) else ck (inb x1 (mL M a2)) <| dr ((mR M x0 3)) fun a6 => ck (mT M a6 = 20) <| ck (inb (mI M a2 x1.toNatClampNeg) (mL M a6)) <| ck (inb (mI M a2 x1.toNatClampNeg) (mL M a6)) <| lw (wI M a6 ((mI M a2 x1.toNatClampNeg)).toNatClampNeg (((mI M a6 ((mI M a2 x1.toNatClampNeg)).toNatClampNeg) + (1 : Int32)))) fun M10 => dr ((mR M10 x0 8)) fun a14 => ck (mT M10 a14 = 20) <| ck (inb x1 (mL M10 a14)) <| bd (f_X12_fishFor M10 x0 x1 ((mI M10 a14 x1.toNatClampNeg))) fun _ M17 => some ((), M17))
noncomputable def b_X12_fisher_76 (M : gMem) (x0 : Nat) (x1 : Int32) (x2 : Int32) : Option ((gMem × Int32) ⊕ (Unit × gMem)) :=
  some (.inl (M, (x2 + (1 : Int32))))
noncomputable def bb_X12_fisher_9 (M : gMem) (x0 : Nat) (x1 : Int32) (x2 : Int32) : Option ((gMem × Int32) ⊕ (Unit × gMem)) :=
  ck (mT M x0 = 11) <| dr ((mR M x0 18)) fun a26 => ck (mT M a26 = 13) <| dr ((mR M a26 11)) fun a28 => ck (mT M a28 = 12) <| (if (mI M a28 8) ≤ x2 then oI (b_X12_fisher_82 M x0 x1) else dr ((mR M x0 8)) fun a31 => ck (mT M a31 = 20) <| ck (inb x1 (mL M a31)) <| (if (mI M a31 x1.toNatClampNeg) = (-1 : Int32) then dr ((mR M a28 9)) fun a35 => ck (mT M a35 = 20) <| ck (inb x2 (mL M a35)) <| (if (mI M a35 x2.toNatClampNeg) = x1 then bd (f_X12_canGo M x0 x1 x2) fun r38 M38 => (if r38 = 0 then b_X12_fisher_76 M38 x0 x1 x2 else ck (mT M38 x0 = 11) <| dr ((mR M38 x0 18)) fun a40 => ck (mT M38 a40 = 13) <| dr ((mR M38 a40 11)) fun a42 => ck (mT M38 a42 = 12) <| dr ((mR M38 a42 10)) fun a44 => ck (mT M38 a44 = 20) <| ck (inb x2 (mL M38 a44)) <| dr ((mR M38 x0 8)) fun a47 => ck (mT M38 a47 = 20) <| ck (inb x1 (mL M38 a47)) <| lw (wI M38 a47 x1.toNatClampNeg ((mI M38 a44 x2.toNatClampNeg))) fun M50 => b_X12_fisher_76 M50 x0 x1 x2) else b_X12_fisher_76 M x0 x1 x2) else oI (b_X12_fisher_82 M x0 x1)))
noncomputable def lp_X12_fisher_9 (M : gMem) (x0 : Nat) (x1 : Int32) (x2 : Int32) : Option (Unit × gMem) :=
  lp (fun (q : gMem × Int32) => bb_X12_fisher_9 q.1 x0 x1 q.2) (M, x2)
noncomputable def b_X12_fisher_0 (M : gMem) (x0 : Nat) (x1 : Int32) : Option (Unit × gMem) :=
  ck (mT M x0 = 11) <| dr ((mR M x0 8)) fun a57 => ck (mT M a57 = 20) <| ck (inb x1 (mL M a57)) <| lw (wI M a57 x1.toNatClampNeg ((-1 : Int32))) fun M60 => lp_X12_fisher_9 M60 x0 x1 ((0 : Int32))
noncomputable def f_X12_fisher (M : gMem) (x0 : Nat) (x1 : Int32) : Option (Unit × gMem) :=
  b_X12_fisher_0 M x0 x1
set_option maxHeartbeats 4000000 in
set_option maxRecDepth 100000 in
theorem t_X12_fisher_82 (X : gX p s m args meth c D cy B (gSt Z B H0) RX12 cX12_fisher wsX12_fisher 3) (hr : meth.sig.returnType = none) {Q : State → Prop} : ∀ (M : gMem) (x0 : Nat) (x1 : Int32) (z : Unit × gMem), b_X12_fisher_82 M x0 x1 = some z → (fun (r : Unit × gMem) => Q = gMQ below D cy B H0 args s 0 0 none r.2) z → gGo p l e rX12_fisher s m args below meth c D cy B H0 3 0 0 Q 82 [(0, vR (some x0)), (1, vI x1)] [] M := by
  intro M x0 x1 z hf hK
  unfold b_X12_fisher_82 at hf
  refine g_aload_n X dX12_fisher_82 rfl rfl ?_
  obtain ⟨hT1, hf⟩ := ck_e hf
  refine g_get (ci := 10) (v := vR (mR M x0 8)) 8 X cdX12 i_X12_fisher_X12 (by decide) k_X12_fisher_f38 rfl dX12_fisher_83 rfl hT1 rfl ?_
  refine g_iload_n X dX12_fisher_86 rfl rfl ?_
  obtain ⟨a2, ha2, hf⟩ := dr_e hf
  obtain ⟨hT3, hf⟩ := ck_e hf
  obtain ⟨hg4, hf⟩ := ck_e hf
  refine g_iald X dX12_fisher_87 ha2 hT3 hg4 ?_
  refine g_iconst (v := (-1 : Int32)) X dX12_fisher_88 (by decide) ?_
  refine g_icmp_ne (tgt := 100) X dX12_fisher_89 (by decide) (fun hc => ?_) (fun hc => ?_)
  · have hf := ife_f hc hf
    refine g_aload_n X dX12_fisher_100 rfl rfl ?_
    refine g_get (ci := 10) (v := vR (mR M x0 3)) 3 X cdX12 i_X12_fisher_X12 (by decide) k_X12_fisher_f23 rfl dX12_fisher_101 rfl hT1 rfl ?_
    refine g_aload_n X dX12_fisher_104 rfl rfl ?_
    refine g_get (ci := 10) (v := vR (mR M x0 8)) 8 X cdX12 i_X12_fisher_X12 (by decide) k_X12_fisher_f38 rfl dX12_fisher_105 rfl hT1 rfl ?_
    refine g_iload_n X dX12_fisher_108 rfl rfl ?_
    obtain ⟨hg5, hf⟩ := ck_e hf
    refine g_iald X dX12_fisher_109 ha2 hT3 hg5 ?_
    refine g_dup2 X dX12_fisher_110 rfl rfl ?_
    obtain ⟨a6, ha6, hf⟩ := dr_e hf
    obtain ⟨hT7, hf⟩ := ck_e hf
    obtain ⟨hg8, hf⟩ := ck_e hf
    refine g_iald X dX12_fisher_111 ha6 hT7 hg8 ?_
    refine g_iconst (v := (1 : Int32)) X dX12_fisher_112 (by decide) ?_
    refine g_iadd X dX12_fisher_113 ?_
    obtain ⟨hg9, hf⟩ := ck_e hf
    refine g_iast X dX12_fisher_114 ha6 hT7 hg9 ?_
    obtain ⟨M10, hM10, hf⟩ := lw_e hf
    rw [← hM10]
    have hT11 : mT M10 x0 = 11 := by rw [hM10]; exact hT1
    have hT12 : mT M10 a2 = 20 := by rw [hM10]; exact hT3
    have hT13 : mT M10 a6 = 20 := by rw [hM10]; exact hT7
    refine g_aload_n X dX12_fisher_115 rfl rfl ?_
    refine g_iload_n X dX12_fisher_116 rfl rfl ?_
    refine g_aload_n X dX12_fisher_117 rfl rfl ?_
    refine g_get (ci := 10) (v := vR (mR M10 x0 8)) 8 X cdX12 i_X12_fisher_X12 (by decide) k_X12_fisher_f38 rfl dX12_fisher_118 rfl hT11 rfl ?_
    refine g_iload_n X dX12_fisher_121 rfl rfl ?_
    obtain ⟨a14, ha14, hf⟩ := dr_e hf
    obtain ⟨hT15, hf⟩ := ck_e hf
    obtain ⟨hg16, hf⟩ := ck_e hf
    refine g_iald X dX12_fisher_122 ha14 hT15 hg16 ?_
    obtain ⟨r17, M17, hq17, hf⟩ := bd_e hf
    refine g_callV (ci := 10) (b := x0) (As := [vI x1, vI (mI M10 a14 x1.toNatClampNeg)]) (st := []) (v := none) (M1 := M17) X (m_X12_fishFor l hq17) (cwV 2 X.2.2.1 gX12_fisher_X12_fishFor rfl rfl rfl (by decide +kernel) ⟨Nat.le_of_ble_eq_true rfl, Nat.le_of_ble_eq_true rfl⟩) rfl rfl rfl hT11 (by decide) rfl (Nat.le_of_ble_eq_true rfl) dX12_fisher_123 ⟨by decide, by decide⟩ ?_
    cases hf
    refine g_eqQ hK ?_
    exact g_vret X hr dX12_fisher_126
  · have hf := ife_t hc hf
    refine g_aload_n X dX12_fisher_92 rfl rfl ?_
    refine g_get (ci := 10) (v := vR (mR M x0 7)) 7 X cdX12 i_X12_fisher_X12 (by decide) k_X12_fisher_f35 rfl dX12_fisher_93 rfl hT1 rfl ?_
    refine g_iload_n X dX12_fisher_96 rfl rfl ?_
    refine g_iconst (v := (0 : Int32)) X dX12_fisher_97 (by decide) ?_
    obtain ⟨a18, ha18, hf⟩ := dr_e hf
    obtain ⟨hT19, hf⟩ := ck_e hf
    obtain ⟨hg20, hf⟩ := ck_e hf
    refine g_iast X dX12_fisher_98 ha18 hT19 hg20 ?_
    obtain ⟨M21, hM21, hf⟩ := lw_e hf
    rw [← hM21]
    have hT22 : mT M21 x0 = 11 := by rw [hM21]; exact hT1
    have hT23 : mT M21 a2 = 20 := by rw [hM21]; exact hT3
    have hT24 : mT M21 a18 = 20 := by rw [hM21]; exact hT19
    cases hf
    refine g_eqQ hK ?_
    exact g_vret X hr dX12_fisher_99
set_option maxHeartbeats 4000000 in
set_option maxRecDepth 100000 in
theorem t_X12_fisher_76 (X : gX p s m args meth c D cy B (gSt Z B H0) RX12 cX12_fisher wsX12_fisher 3) (hr : meth.sig.returnType = none) {Q : State → Prop} : ∀ (M : gMem) (x0 : Nat) (x1 : Int32) (x2 : Int32) (z : (gMem × Int32) ⊕ (Unit × gMem)), b_X12_fisher_76 M x0 x1 x2 = some z → (Sum.elim (fun (q : gMem × Int32) => gGo p l e rX12_fisher s m args below meth c D cy B H0 3 0 0 Q 9 [(0, vR (some x0)), (1, vI x1), (2, vI q.2)] [] q.1) (fun (r : Unit × gMem) => Q = gMQ below D cy B H0 args s 0 0 none r.2)) z → gGo p l e rX12_fisher s m args below meth c D cy B H0 3 0 0 Q 76 [(0, vR (some x0)), (1, vI x1), (2, vI x2)] [] M := by
  intro M x0 x1 x2 z hf hK
  unfold b_X12_fisher_76 at hf
  refine g_iinc (v := (1 : Int32)) (lv' := [(2, vI (x2 + (1 : Int32))), (0, vR (some x0)), (1, vI x1)]) X dX12_fisher_76 rfl (by decide) (by decide) rfl ?_
  refine g_goto (tgt := 9) X dX12_fisher_79 (by decide) ?_
  cases hf
  refine g_sub (lvsub_of _ _ [1, 2, 0] rfl) ?_
  exact hK
set_option maxHeartbeats 4000000 in
set_option maxRecDepth 100000 in
theorem tb_X12_fisher_9 (X : gX p s m args meth c D cy B (gSt Z B H0) RX12 cX12_fisher wsX12_fisher 3) (hr : meth.sig.returnType = none) {Q : State → Prop} : ∀ (M : gMem) (x0 : Nat) (x1 : Int32) (x2 : Int32) (z : (gMem × Int32) ⊕ (Unit × gMem)), bb_X12_fisher_9 M x0 x1 x2 = some z → (Sum.elim (fun (q : gMem × Int32) => gGo p l e rX12_fisher s m args below meth c D cy B H0 3 0 0 Q 9 [(0, vR (some x0)), (1, vI x1), (2, vI q.2)] [] q.1) (fun (r : Unit × gMem) => Q = gMQ below D cy B H0 args s 0 0 none r.2)) z → gGo p l e rX12_fisher s m args below meth c D cy B H0 3 0 0 Q 9 [(0, vR (some x0)), (1, vI x1), (2, vI x2)] [] M := by
  intro M x0 x1 x2 z hf hK
  unfold bb_X12_fisher_9 at hf
  refine g_iload_n X dX12_fisher_9 rfl rfl ?_
  refine g_aload_n X dX12_fisher_10 rfl rfl ?_
  obtain ⟨hT25, hf⟩ := ck_e hf
  refine g_get (ci := 10) (v := vR (mR M x0 18)) 18 X cdX12 i_X12_fisher_X12 (by decide) k_X12_fisher_f3 rfl dX12_fisher_11 rfl hT25 rfl ?_
  obtain ⟨a26, ha26, hf⟩ := dr_e hf
  obtain ⟨hT27, hf⟩ := ck_e hf
  refine g_getN (ci := 12) (w := vR (mR M a26 11)) 11 X cdX14 i_X12_fisher_X14 (by decide) (gNw X _ kn_X12_81) rfl dX12_fisher_14 ha26 hT27 rfl ?_
  obtain ⟨a28, ha28, hf⟩ := dr_e hf
  obtain ⟨hT29, hf⟩ := ck_e hf
  refine g_getN (ci := 11) (w := vI (mI M a28 8)) 8 X cdX13 i_X12_fisher_X13 (by decide) (gNw X _ kn_X12_128) rfl dX12_fisher_17 ha28 hT29 rfl ?_
  refine g_icmp_ge (tgt := 82) X dX12_fisher_20 (by decide) (fun hc => ?_) (fun hc => ?_)
  · have hf := ife_t hc hf
    obtain ⟨w30, hw30, hz30⟩ := oI_e hf
    subst hz30
    have hf := hw30
    refine g_sub (lvsub_of _ _ [0, 1] rfl) ?_
    exact t_X12_fisher_82 X hr _ _ _ _ hf hK
  · have hf := ife_f hc hf
    refine g_aload_n X dX12_fisher_23 rfl rfl ?_
    refine g_get (ci := 10) (v := vR (mR M x0 8)) 8 X cdX12 i_X12_fisher_X12 (by decide) k_X12_fisher_f38 rfl dX12_fisher_24 rfl hT25 rfl ?_
    refine g_iload_n X dX12_fisher_27 rfl rfl ?_
    obtain ⟨a31, ha31, hf⟩ := dr_e hf
    obtain ⟨hT32, hf⟩ := ck_e hf
    obtain ⟨hg33, hf⟩ := ck_e hf
    refine g_iald X dX12_fisher_28 ha31 hT32 hg33 ?_
    refine g_iconst (v := (-1 : Int32)) X dX12_fisher_29 (by decide) ?_
    refine g_icmp_ne (tgt := 82) X dX12_fisher_30 (by decide) (fun hc => ?_) (fun hc => ?_)
    · have hf := ife_f hc hf
      obtain ⟨w34, hw34, hz34⟩ := oI_e hf
      subst hz34
      have hf := hw34
      refine g_sub (lvsub_of _ _ [0, 1] rfl) ?_
      exact t_X12_fisher_82 X hr _ _ _ _ hf hK
    · have hf := ife_t hc hf
      refine g_aload_n X dX12_fisher_33 rfl rfl ?_
      refine g_get (ci := 10) (v := vR (mR M x0 18)) 18 X cdX12 i_X12_fisher_X12 (by decide) k_X12_fisher_f3 rfl dX12_fisher_34 rfl hT25 rfl ?_
      refine g_getN (ci := 12) (w := vR (mR M a26 11)) 11 X cdX14 i_X12_fisher_X14 (by decide) (gNw X _ kn_X12_81) rfl dX12_fisher_37 ha26 hT27 rfl ?_
      refine g_getN (ci := 11) (w := vR (mR M a28 9)) 9 X cdX13 i_X12_fisher_X13 (by decide) (gNw X _ kn_X12_131) rfl dX12_fisher_40 ha28 hT29 rfl ?_
      refine g_iload_n X dX12_fisher_43 rfl rfl ?_
      obtain ⟨a35, ha35, hf⟩ := dr_e hf
      obtain ⟨hT36, hf⟩ := ck_e hf
      obtain ⟨hg37, hf⟩ := ck_e hf
      refine g_iald X dX12_fisher_44 ha35 hT36 hg37 ?_
      refine g_iload_n X dX12_fisher_45 rfl rfl ?_
      refine g_icmp_ne (tgt := 76) X dX12_fisher_46 (by decide) (fun hc => ?_) (fun hc => ?_)
      · have hf := ife_f hc hf
        refine g_sub (lvsub_of _ _ [0, 1, 2] rfl) ?_
        exact t_X12_fisher_76 X hr _ _ _ _ _ hf hK
      · have hf := ife_t hc hf
        refine g_aload_n X dX12_fisher_49 rfl rfl ?_
        refine g_iload_n X dX12_fisher_50 rfl rfl ?_
        refine g_iload_n X dX12_fisher_51 rfl rfl ?_
        obtain ⟨r38, M38, hq38, hf⟩ := bd_e hf
        refine g_callV (ci := 10) (b := x0) (As := [vI x1, vI x2]) (st := []) (v := some (vI r38)) (M1 := M38) X (m_X12_canGo l hq38) (cwV 2 X.2.2.1 gX12_fisher_X12_canGo rfl rfl rfl (by decide +kernel) ⟨Nat.le_of_ble_eq_true rfl, Nat.le_of_ble_eq_true rfl⟩) rfl rfl rfl hT25 (by decide) rfl (Nat.le_of_ble_eq_true rfl) dX12_fisher_52 ⟨by decide, by decide⟩ ?_
        refine g_if_eq (tgt := 76) X dX12_fisher_55 (by decide) (fun hc => ?_) (fun hc => ?_)
        · have hf := ife_t hc hf
          refine g_sub (lvsub_of _ _ [0, 1, 2] rfl) ?_
          exact t_X12_fisher_76 X hr _ _ _ _ _ hf hK
        · have hf := ife_f hc hf
          refine g_aload_n X dX12_fisher_58 rfl rfl ?_
          obtain ⟨hT39, hf⟩ := ck_e hf
          refine g_get (ci := 10) (v := vR (mR M38 x0 8)) 8 X cdX12 i_X12_fisher_X12 (by decide) k_X12_fisher_f38 rfl dX12_fisher_59 rfl hT39 rfl ?_
          refine g_iload_n X dX12_fisher_62 rfl rfl ?_
          refine g_aload_n X dX12_fisher_63 rfl rfl ?_
          refine g_get (ci := 10) (v := vR (mR M38 x0 18)) 18 X cdX12 i_X12_fisher_X12 (by decide) k_X12_fisher_f3 rfl dX12_fisher_64 rfl hT39 rfl ?_
          obtain ⟨a40, ha40, hf⟩ := dr_e hf
          obtain ⟨hT41, hf⟩ := ck_e hf
          refine g_getN (ci := 12) (w := vR (mR M38 a40 11)) 11 X cdX14 i_X12_fisher_X14 (by decide) (gNw X _ kn_X12_81) rfl dX12_fisher_67 ha40 hT41 rfl ?_
          obtain ⟨a42, ha42, hf⟩ := dr_e hf
          obtain ⟨hT43, hf⟩ := ck_e hf
          refine g_getN (ci := 11) (w := vR (mR M38 a42 10)) 10 X cdX13 i_X12_fisher_X13 (by decide) (gNw X _ kn_X12_138) rfl dX12_fisher_70 ha42 hT43 rfl ?_
          refine g_iload_n X dX12_fisher_73 rfl rfl ?_
          obtain ⟨a44, ha44, hf⟩ := dr_e hf
          obtain ⟨hT45, hf⟩ := ck_e hf
          obtain ⟨hg46, hf⟩ := ck_e hf
          refine g_iald X dX12_fisher_74 ha44 hT45 hg46 ?_
          obtain ⟨a47, ha47, hf⟩ := dr_e hf
          obtain ⟨hT48, hf⟩ := ck_e hf
          obtain ⟨hg49, hf⟩ := ck_e hf
          refine g_iast X dX12_fisher_75 ha47 hT48 hg49 ?_
          obtain ⟨M50, hM50, hf⟩ := lw_e hf
          rw [← hM50]
          have hT51 : mT M50 x0 = 11 := by rw [hM50]; exact hT39
          have hT52 : mT M50 a40 = 13 := by rw [hM50]; exact hT41
          have hT53 : mT M50 a42 = 12 := by rw [hM50]; exact hT43
          have hT54 : mT M50 a44 = 20 := by rw [hM50]; exact hT45
          have hT55 : mT M50 a47 = 20 := by rw [hM50]; exact hT48
          refine g_sub (lvsub_of _ _ [0, 1, 2] rfl) ?_
          exact t_X12_fisher_76 X hr _ _ _ _ _ hf hK
set_option maxHeartbeats 4000000 in
set_option maxRecDepth 100000 in
theorem tl_X12_fisher_9 (X : gX p s m args meth c D cy B (gSt Z B H0) RX12 cX12_fisher wsX12_fisher 3) (hr : meth.sig.returnType = none) {Q : State → Prop} : ∀ (M : gMem) (x0 : Nat) (x1 : Int32) (x2 : Int32) (z : Unit × gMem), lp_X12_fisher_9 M x0 x1 x2 = some z → (fun (r : Unit × gMem) => Q = gMQ below D cy B H0 args s 0 0 none r.2) z → gGo p l e rX12_fisher s m args below meth c D cy B H0 3 0 0 Q 9 [(0, vR (some x0)), (1, vI x1), (2, vI x2)] [] M := by
  intro M x0 x1 x2 z hf hK
  refine lp_ind (P := (fun (q : gMem × Int32) (z : Unit × gMem) => (fun (r : Unit × gMem) => Q = gMQ below D cy B H0 args s 0 0 none r.2) z → gGo p l e rX12_fisher s m args below meth c D cy B H0 3 0 0 Q 9 [(0, vR (some x0)), (1, vI x1), (2, vI q.2)] [] q.1)) (fun q z hq => ?_) _ _ hf hK
  intro hK
  obtain ⟨w, hw, hm⟩ := hq
  refine tb_X12_fisher_9 X hr _ _ _ _ w hw ?_
  cases w with
  | inl a => exact hm hK
  | inr b => cases hm; exact hK
set_option maxHeartbeats 4000000 in
set_option maxRecDepth 100000 in
theorem t_X12_fisher_0 (X : gX p s m args meth c D cy B (gSt Z B H0) RX12 cX12_fisher wsX12_fisher 3) (hr : meth.sig.returnType = none) {Q : State → Prop} : ∀ (M : gMem) (x0 : Nat) (x1 : Int32) (z : Unit × gMem), b_X12_fisher_0 M x0 x1 = some z → (fun (r : Unit × gMem) => Q = gMQ below D cy B H0 args s 0 0 none r.2) z → gGo p l e rX12_fisher s m args below meth c D cy B H0 3 0 0 Q 0 [(0, vR (some x0)), (1, vI x1)] [] M := by
  intro M x0 x1 z hf hK
  unfold b_X12_fisher_0 at hf
  refine g_aload_n X dX12_fisher_0 rfl rfl ?_
  obtain ⟨hT56, hf⟩ := ck_e hf
  refine g_get (ci := 10) (v := vR (mR M x0 8)) 8 X cdX12 i_X12_fisher_X12 (by decide) k_X12_fisher_f38 rfl dX12_fisher_1 rfl hT56 rfl ?_
  refine g_iload_n X dX12_fisher_4 rfl rfl ?_
  refine g_iconst (v := (-1 : Int32)) X dX12_fisher_5 (by decide) ?_
  obtain ⟨a57, ha57, hf⟩ := dr_e hf
  obtain ⟨hT58, hf⟩ := ck_e hf
  obtain ⟨hg59, hf⟩ := ck_e hf
  refine g_iast X dX12_fisher_6 ha57 hT58 hg59 ?_
  obtain ⟨M60, hM60, hf⟩ := lw_e hf
  rw [← hM60]
  have hT61 : mT M60 x0 = 11 := by rw [hM60]; exact hT56
  have hT62 : mT M60 a57 = 20 := by rw [hM60]; exact hT58
  refine g_iconst (v := (0 : Int32)) X dX12_fisher_7 (by decide) ?_
  refine g_istore_n (lv' := [(2, vI (0 : Int32)), (0, vR (some x0)), (1, vI x1)]) X dX12_fisher_8 rfl (by decide) rfl ?_
  refine g_sub (lvsub_of _ _ [1, 2, 0] rfl) ?_
  exact tl_X12_fisher_9 X hr _ _ _ _ _ hf hK
set_option maxHeartbeats 4000000 in
set_option maxRecDepth 100000 in
theorem m_X12_fisher (l : Launch) {D : va_G} {cy : Nat → ClassId} {B : Nat} {H0 : Heap} {Z : Nat → Nat} {M M1 : gMem} {x0 : Nat} {x1 : Int32} {r : Unit} (hf : f_X12_fisher M x0 x1 = some (r, M1)) : Met l yX12_fisher wsX12_fisher rX12_fisher (va_Pc (Value.ref x0 :: List.map gv [vI x1]) (gPre D cy B H0 (gSt Z B H0) M)) (gQ D cy B H0 none M1) 0 0 (gA B) := by
  refine Met.ofW (cc := cX12_fisher) (maxL := 3) (ret := none) (by decide) rfl ?_
  intro p e s m args below meth c s₁ Bd hml hv
  obtain ⟨rfl, hW, hKK, hFs⟩ := hv
  have X : gX p s m _ meth c D cy B (gSt Z B H0) RX12 cX12_fisher wsX12_fisher 3 := ⟨Bd.exec, Bd.bytes, atoms_spec (ws := wsX12_fisher) Bd.pre, findClass_of_methodNamed Bd.named, hml, hKK, by rw [hW.1]; exact hW.2.1, Bd.notSynchronized, hFs⟩
  have hr := Bd.returns
  have hl := lv_entry ([.ref x0, .int x1]) (n := 3) (Nat.le_of_ble_eq_true rfl)
  show W p l e rX12_fisher s m _ below meth c s.heap [] 0 0 _ (entryFrame m ([.ref x0, .int x1] : List Value).toArray 3)
  rw [lg_entry_eq]
  generalize (lg_sl ([.ref x0, .int x1]) ++ List.replicate (3 - (lg_sl ([.ref x0, .int x1])).length) Slot.unset).toArray = ls at hl ⊢
  have hl : lv_has ls 3 (List.map gq [(0, vR (some x0)), (1, vI x1)]) := hl
  exact t_X12_fisher_0 X hr _ _ _ _ hf rfl s.heap [] ls hW va_S.rf (lv_has_sub hl (lvsub_of _ _ [0, 1] rfl))
/-! ## TideLotsModel$State.pass()V -/
theorem dX12_pass_0 : decode cX12_pass 0 = .ok (.aload_n 0, 1) := by decide +kernel
theorem dX12_pass_1 : decode cX12_pass 1 = .ok (.invokevirtual 106, 3) := by decide +kernel
theorem dX12_pass_4 : decode cX12_pass 4 = .ok (.iconst 0, 1) := by decide +kernel
theorem dX12_pass_5 : decode cX12_pass 5 = .ok (.istore_n 1, 1) := by decide +kernel
theorem dX12_pass_6 : decode cX12_pass 6 = .ok (.iload_n 1, 1) := by decide +kernel
theorem dX12_pass_7 : decode cX12_pass 7 = .ok (.bipush 8, 2) := by decide +kernel
theorem dX12_pass_9 : decode cX12_pass 9 = .ok (.if_icmp .ge 16, 3) := by decide +kernel
theorem dX12_pass_12 : decode cX12_pass 12 = .ok (.aload_n 0, 1) := by decide +kernel
theorem dX12_pass_13 : decode cX12_pass 13 = .ok (.getfield 23, 3) := by decide +kernel
theorem dX12_pass_16 : decode cX12_pass 16 = .ok (.iload_n 1, 1) := by decide +kernel
theorem dX12_pass_17 : decode cX12_pass 17 = .ok (.iconst 0, 1) := by decide +kernel
theorem dX12_pass_18 : decode cX12_pass 18 = .ok (.iastore, 1) := by decide +kernel
theorem dX12_pass_19 : decode cX12_pass 19 = .ok (.iinc 1 1, 3) := by decide +kernel
theorem dX12_pass_22 : decode cX12_pass 22 = .ok (.goto (-16), 3) := by decide +kernel
theorem dX12_pass_25 : decode cX12_pass 25 = .ok (.iconst 0, 1) := by decide +kernel
theorem dX12_pass_26 : decode cX12_pass 26 = .ok (.istore_n 1, 1) := by decide +kernel
theorem dX12_pass_27 : decode cX12_pass 27 = .ok (.iload_n 1, 1) := by decide +kernel
theorem dX12_pass_28 : decode cX12_pass 28 = .ok (.aload_n 0, 1) := by decide +kernel
theorem dX12_pass_29 : decode cX12_pass 29 = .ok (.getfield 3, 3) := by decide +kernel
theorem dX12_pass_32 : decode cX12_pass 32 = .ok (.getfield 81, 3) := by decide +kernel
theorem dX12_pass_35 : decode cX12_pass 35 = .ok (.getfield 93, 3) := by decide +kernel
theorem dX12_pass_38 : decode cX12_pass 38 = .ok (.if_icmp .ge 19, 3) := by decide +kernel
theorem dX12_pass_41 : decode cX12_pass 41 = .ok (.aload_n 0, 1) := by decide +kernel
theorem dX12_pass_42 : decode cX12_pass 42 = .ok (.aload_n 0, 1) := by decide +kernel
theorem dX12_pass_43 : decode cX12_pass 43 = .ok (.getfield 56, 3) := by decide +kernel
theorem dX12_pass_46 : decode cX12_pass 46 = .ok (.iload_n 1, 1) := by decide +kernel
theorem dX12_pass_47 : decode cX12_pass 47 = .ok (.iaload, 1) := by decide +kernel
theorem dX12_pass_48 : decode cX12_pass 48 = .ok (.invokevirtual 109, 3) := by decide +kernel
theorem dX12_pass_51 : decode cX12_pass 51 = .ok (.iinc 1 1, 3) := by decide +kernel
theorem dX12_pass_54 : decode cX12_pass 54 = .ok (.goto (-27), 3) := by decide +kernel
theorem dX12_pass_57 : decode cX12_pass 57 = .ok (.iconst 0, 1) := by decide +kernel
theorem dX12_pass_58 : decode cX12_pass 58 = .ok (.istore_n 1, 1) := by decide +kernel
theorem dX12_pass_59 : decode cX12_pass 59 = .ok (.iload_n 1, 1) := by decide +kernel
theorem dX12_pass_60 : decode cX12_pass 60 = .ok (.aload_n 0, 1) := by decide +kernel
theorem dX12_pass_61 : decode cX12_pass 61 = .ok (.getfield 3, 3) := by decide +kernel
theorem dX12_pass_64 : decode cX12_pass 64 = .ok (.getfield 81, 3) := by decide +kernel
theorem dX12_pass_67 : decode cX12_pass 67 = .ok (.getfield 113, 3) := by decide +kernel
theorem dX12_pass_70 : decode cX12_pass 70 = .ok (.if_icmp .ge 30, 3) := by decide +kernel
theorem dX12_pass_73 : decode cX12_pass 73 = .ok (.aload_n 0, 1) := by decide +kernel
theorem dX12_pass_74 : decode cX12_pass 74 = .ok (.getfield 3, 3) := by decide +kernel
theorem dX12_pass_77 : decode cX12_pass 77 = .ok (.getfield 81, 3) := by decide +kernel
theorem dX12_pass_80 : decode cX12_pass 80 = .ok (.getfield 116, 3) := by decide +kernel
theorem dX12_pass_83 : decode cX12_pass 83 = .ok (.iload_n 1, 1) := by decide +kernel
theorem dX12_pass_84 : decode cX12_pass 84 = .ok (.iaload, 1) := by decide +kernel
theorem dX12_pass_85 : decode cX12_pass 85 = .ok (.iconst (-1), 1) := by decide +kernel
theorem dX12_pass_86 : decode cX12_pass 86 = .ok (.if_icmp .ne 8, 3) := by decide +kernel
theorem dX12_pass_89 : decode cX12_pass 89 = .ok (.aload_n 0, 1) := by decide +kernel
theorem dX12_pass_90 : decode cX12_pass 90 = .ok (.iload_n 1, 1) := by decide +kernel
theorem dX12_pass_91 : decode cX12_pass 91 = .ok (.invokevirtual 119, 3) := by decide +kernel
theorem dX12_pass_94 : decode cX12_pass 94 = .ok (.iinc 1 1, 3) := by decide +kernel
theorem dX12_pass_97 : decode cX12_pass 97 = .ok (.goto (-38), 3) := by decide +kernel
theorem dX12_pass_100 : decode cX12_pass 100 = .ok (.iconst 0, 1) := by decide +kernel
theorem dX12_pass_101 : decode cX12_pass 101 = .ok (.istore_n 1, 1) := by decide +kernel
theorem dX12_pass_102 : decode cX12_pass 102 = .ok (.iload_n 1, 1) := by decide +kernel
theorem dX12_pass_103 : decode cX12_pass 103 = .ok (.aload_n 0, 1) := by decide +kernel
theorem dX12_pass_104 : decode cX12_pass 104 = .ok (.getfield 3, 3) := by decide +kernel
theorem dX12_pass_107 : decode cX12_pass 107 = .ok (.getfield 81, 3) := by decide +kernel
theorem dX12_pass_110 : decode cX12_pass 110 = .ok (.getfield 93, 3) := by decide +kernel
theorem dX12_pass_113 : decode cX12_pass 113 = .ok (.if_icmp .ge 24, 3) := by decide +kernel
theorem dX12_pass_116 : decode cX12_pass 116 = .ok (.aload_n 0, 1) := by decide +kernel
theorem dX12_pass_117 : decode cX12_pass 117 = .ok (.getfield 32, 3) := by decide +kernel
theorem dX12_pass_120 : decode cX12_pass 120 = .ok (.iload_n 1, 1) := by decide +kernel
theorem dX12_pass_121 : decode cX12_pass 121 = .ok (.dup2, 1) := by decide +kernel
theorem dX12_pass_122 : decode cX12_pass 122 = .ok (.iaload, 1) := by decide +kernel
theorem dX12_pass_123 : decode cX12_pass 123 = .ok (.aload_n 0, 1) := by decide +kernel
theorem dX12_pass_124 : decode cX12_pass 124 = .ok (.getfield 35, 3) := by decide +kernel
theorem dX12_pass_127 : decode cX12_pass 127 = .ok (.iload_n 1, 1) := by decide +kernel
theorem dX12_pass_128 : decode cX12_pass 128 = .ok (.iaload, 1) := by decide +kernel
theorem dX12_pass_129 : decode cX12_pass 129 = .ok (.iadd, 1) := by decide +kernel
theorem dX12_pass_130 : decode cX12_pass 130 = .ok (.iastore, 1) := by decide +kernel
theorem dX12_pass_131 : decode cX12_pass 131 = .ok (.iinc 1 1, 3) := by decide +kernel
theorem dX12_pass_134 : decode cX12_pass 134 = .ok (.goto (-32), 3) := by decide +kernel
theorem dX12_pass_137 : decode cX12_pass 137 = .ok (.iconst 0, 1) := by decide +kernel
theorem dX12_pass_138 : decode cX12_pass 138 = .ok (.istore_n 1, 1) := by decide +kernel
theorem dX12_pass_139 : decode cX12_pass 139 = .ok (.iload_n 1, 1) := by decide +kernel
theorem dX12_pass_140 : decode cX12_pass 140 = .ok (.aload_n 0, 1) := by decide +kernel
theorem dX12_pass_141 : decode cX12_pass 141 = .ok (.getfield 3, 3) := by decide +kernel
theorem dX12_pass_144 : decode cX12_pass 144 = .ok (.getfield 81, 3) := by decide +kernel
theorem dX12_pass_147 : decode cX12_pass 147 = .ok (.getfield 122, 3) := by decide +kernel
theorem dX12_pass_150 : decode cX12_pass 150 = .ok (.if_icmp .ge 14, 3) := by decide +kernel
theorem dX12_pass_153 : decode cX12_pass 153 = .ok (.aload_n 0, 1) := by decide +kernel
theorem dX12_pass_154 : decode cX12_pass 154 = .ok (.iload_n 1, 1) := by decide +kernel
theorem dX12_pass_155 : decode cX12_pass 155 = .ok (.invokevirtual 125, 3) := by decide +kernel
theorem dX12_pass_158 : decode cX12_pass 158 = .ok (.iinc 1 1, 3) := by decide +kernel
theorem dX12_pass_161 : decode cX12_pass 161 = .ok (.goto (-22), 3) := by decide +kernel
theorem dX12_pass_164 : decode cX12_pass 164 = .ok (.aload_n 0, 1) := by decide +kernel
theorem dX12_pass_165 : decode cX12_pass 165 = .ok (.dup, 1) := by decide +kernel
theorem dX12_pass_166 : decode cX12_pass 166 = .ok (.getfield 74, 3) := by decide +kernel
theorem dX12_pass_169 : decode cX12_pass 169 = .ok (.iconst 1, 1) := by decide +kernel
theorem dX12_pass_170 : decode cX12_pass 170 = .ok (.iadd, 1) := by decide +kernel
theorem dX12_pass_171 : decode cX12_pass 171 = .ok (.putfield 74, 3) := by decide +kernel
theorem dX12_pass_174 : decode cX12_pass 174 = .ok (.return_, 1) := by decide +kernel
set_option maxRecDepth 20000 in
theorem ggX12_pass_X12_grow : GoodIn wsX12_pass wsX12_grow := goodIn_r _ [81, 49, 68, 53, 54, 55, 45, 46, 47, 10, 48, 82, 83, 84, 85, 86, 87, 88, 89, 90, 91, 92, 93, 94, 95, 96, 97, 98, 99, 100] (by decide +kernel) (by decide +kernel)
set_option maxRecDepth 20000 in
theorem gX12_pass_X12_grow : GoodIn wsX12_pass (wsV RX12 125 RX12 yX12_grow wsX12_grow) := goodIn_app (goodIn_of _ (by decide +kernel)) ggX12_pass_X12_grow
set_option maxRecDepth 20000 in
theorem ggX12_pass_X12_split : GoodIn wsX12_pass wsX12_split := goodIn_r _ [74, 2, 28, 5, 75, 76, 77, 82, 83, 84, 85, 86, 87, 88, 89, 90, 91, 92, 93, 94, 95, 96, 97, 98, 99, 100, 101, 102, 103, 104, 105, 106, 107, 108, 109, 110, 111, 112, 113, 114, 115, 116, 117, 118, 119, 120, 121, 122, 123, 124, 125, 126, 127, 128, 129, 130, 131, 132, 133, 134, 135, 136, 137, 138, 139, 140] (by decide +kernel) (by decide +kernel)
set_option maxRecDepth 20000 in
theorem gX12_pass_X12_split : GoodIn wsX12_pass (wsV RX12 119 RX12 yX12_split wsX12_split) := goodIn_app (goodIn_of _ (by decide +kernel)) ggX12_pass_X12_split
set_option maxRecDepth 20000 in
theorem ggX12_pass_X12_fisher : GoodIn wsX12_pass wsX12_fisher := goodIn_r _ [22, 23, 2, 5, 1, 24, 25, 26, 10, 27, 28, 29, 30, 31, 32, 33, 6, 34, 35, 36, 37, 38, 39, 40, 41, 42, 43, 4, 44, 45, 46, 47, 48, 49, 50, 51, 52, 53, 54, 55, 56, 57, 58, 59, 60, 61, 62, 63, 64, 65, 66, 67, 68, 69, 70, 82, 83, 84, 85, 86, 87, 88, 89, 90, 91, 92, 93, 94, 95, 96, 97, 98, 99, 100, 101, 102, 103, 104, 105, 106, 107, 108, 109, 110, 111, 112, 113, 114, 115, 116, 117, 118, 119, 120, 121, 122, 123, 124, 125, 126, 127, 128, 129, 130, 131, 132, 133, 134, 135, 136, 137, 138, 139, 140] (by decide +kernel) (by decide +kernel)
set_option maxRecDepth 20000 in
theorem gX12_pass_X12_fisher : GoodIn wsX12_pass (wsV RX12 109 RX12 yX12_fisher wsX12_fisher) := goodIn_app (goodIn_of _ (by decide +kernel)) ggX12_pass_X12_fisher
set_option maxRecDepth 20000 in
theorem ggX12_pass_X12_draw : GoodIn wsX12_pass wsX12_draw := goodIn_r _ [11, 2, 12, 13, 14, 3, 15, 16, 17, 18, 82, 83, 84, 85, 86, 87, 88, 89, 90, 91, 92, 93, 94, 95, 96, 97, 98, 99, 100, 101, 102, 103, 104, 105, 106, 107, 108, 109, 110, 111, 112, 113, 114, 115, 116, 117, 118, 119, 120, 121, 122, 123, 124, 125, 126, 127, 128, 129, 130, 131, 132, 133, 134, 135, 136, 137, 138, 139, 140] (by decide +kernel) (by decide +kernel)
set_option maxRecDepth 20000 in
theorem gX12_pass_X12_draw : GoodIn wsX12_pass (wsV RX12 106 RX12 yX12_draw wsX12_draw) := goodIn_app (goodIn_of _ (by decide +kernel)) ggX12_pass_X12_draw
theorem k_X12_pass_f3 : Cond.fieldLink RX12 3 "TideLotsModel$State" "this$0" "LTideLotsModel;" ∈ wsX12_pass := by decide +kernel
theorem i_X12_pass_X12 : ∀ w ∈ u_ws RX12 TX12 19, w ∈ wsX12_pass := by decide +kernel
theorem i_X12_pass_X14 : ∀ w ∈ u_ws RX14 TX14 15, w ∈ wsX12_pass := by decide +kernel
theorem kn_X12_122 : Cond.fieldLinkNest "TideLotsModel$State" (122 : Nat) "TideLotsModel$Told" "grounds" "I" "TideLotsModel" ∈ gNs := by decide +kernel
theorem i_X12_pass_X13 : ∀ w ∈ u_ws RX13 TX13 25, w ∈ wsX12_pass := by decide +kernel
theorem k_X12_pass_f74 : Cond.fieldLink RX12 74 "TideLotsModel$State" "tide" "I" ∈ wsX12_pass := by decide +kernel
theorem k_X12_pass_f32 : Cond.fieldLink RX12 32 "TideLotsModel$State" "store" "[I" ∈ wsX12_pass := by decide +kernel
theorem k_X12_pass_f35 : Cond.fieldLink RX12 35 "TideLotsModel$State" "caught" "[I" ∈ wsX12_pass := by decide +kernel
theorem k_X12_pass_f56 : Cond.fieldLink RX12 56 "TideLotsModel$State" "lots" "[I" ∈ wsX12_pass := by decide +kernel
theorem k_X12_pass_f23 : Cond.fieldLink RX12 23 "TideLotsModel$State" "boats" "[I" ∈ wsX12_pass := by decide +kernel
abbrev rX12_pass : Room := { frames := 6, cells := 0, slots := 0, locals := 140 }
noncomputable def bb_X12_pass_139 (M : gMem) (x0 : Nat) (x1 : Int32) : Option ((gMem × Int32) ⊕ (Unit × gMem)) :=
  ck (mT M x0 = 11) <| dr ((mR M x0 18)) fun a2 => ck (mT M a2 = 13) <| dr ((mR M a2 11)) fun a4 => ck (mT M a4 = 12) <| (if (mI M a4 0) ≤ x1 then lw (wI M x0 0 (((mI M x0 0) + (1 : Int32)))) fun M6 => oI (some ((), M6)) else bd (f_X12_grow M x0 x1) fun _ M11 => some (.inl (M11, (x1 + (1 : Int32)))))
noncomputable def lp_X12_pass_139 (M : gMem) (x0 : Nat) (x1 : Int32) : Option (Unit × gMem) :=
  lp (fun (q : gMem × Int32) => bb_X12_pass_139 q.1 x0 q.2) (M, x1)
noncomputable def bb_X12_pass_102 (M : gMem) (x0 : Nat) (x1 : Int32) : Option ((gMem × Int32) ⊕ (Unit × gMem)) :=
  ck (mT M x0 = 11) <| dr ((mR M x0 18)) fun a13 => ck (mT M a13 = 13) <| dr ((mR M a13 11)) fun a15 => ck (mT M a15 = 12) <| (if (mI M a15 4) ≤ x1 then oI (lp_X12_pass_139 M x0 ((0 : Int32))) else dr ((mR M x0 6)) fun a18 => ck (mT M a18 = 20) <| ck (inb x1 (mL M a18)) <| dr ((mR M x0 7)) fun a21 => ck (mT M a21 = 20) <| ck (inb x1 (mL M a21)) <| ck (inb x1 (mL M a18)) <| lw (wI M a18 x1.toNatClampNeg (((mI M a18 x1.toNatClampNeg) + (mI M a21 x1.toNatClampNeg)))) fun M25 => some (.inl (M25, (x1 + (1 : Int32)))))
noncomputable def lp_X12_pass_102 (M : gMem) (x0 : Nat) (x1 : Int32) : Option (Unit × gMem) :=
  lp (fun (q : gMem × Int32) => bb_X12_pass_102 q.1 x0 q.2) (M, x1)
noncomputable def b_X12_pass_94 (M : gMem) (x0 : Nat) (x1 : Int32) : Option ((gMem × Int32) ⊕ (Unit × gMem)) :=
  some (.inl (M, (x1 + (1 : Int32))))
noncomputable def bb_X12_pass_59 (M : gMem) (x0 : Nat) (x1 : Int32) : Option ((gMem × Int32) ⊕ (Unit × gMem)) :=
  ck (mT M x0 = 11) <| dr ((mR M x0 18)) fun a32 => ck (mT M a32 = 13) <| dr ((mR M a32 11)) fun a34 => ck (mT M a34 = 12) <| (if (mI M a34 11) ≤ x1 then oI (lp_X12_pass_102 M x0 ((0 : Int32))) else dr ((mR M a34 12)) fun a37 => ck (mT M a37 = 20) <| ck (inb x1 (mL M a37)) <| (if (mI M a37 x1.toNatClampNeg) = (-1 : Int32) then bd (f_X12_split M x0 x1) fun _ M40 => b_X12_pass_94 M40 x0 x1 else b_X12_pass_94 M x0 x1))
noncomputable def lp_X12_pass_59 (M : gMem) (x0 : Nat) (x1 : Int32) : Option (Unit × gMem) :=
  lp (fun (q : gMem × Int32) => bb_X12_pass_59 q.1 x0 q.2) (M, x1)
noncomputable def bb_X12_pass_27 (M : gMem) (x0 : Nat) (x1 : Int32) : Option ((gMem × Int32) ⊕ (Unit × gMem)) :=
  ck (mT M x0 = 11) <| dr ((mR M x0 18)) fun a42 => ck (mT M a42 = 13) <| dr ((mR M a42 11)) fun a44 => ck (mT M a44 = 12) <| (if (mI M a44 4) ≤ x1 then oI (lp_X12_pass_59 M x0 ((0 : Int32))) else dr ((mR M x0 14)) fun a47 => ck (mT M a47 = 20) <| ck (inb x1 (mL M a47)) <| bd (f_X12_fisher M x0 ((mI M a47 x1.toNatClampNeg))) fun _ M50 => some (.inl (M50, (x1 + (1 : Int32)))))
noncomputable def lp_X12_pass_27 (M : gMem) (x0 : Nat) (x1 : Int32) : Option (Unit × gMem) :=
  lp (fun (q : gMem × Int32) => bb_X12_pass_27 q.1 x0 q.2) (M, x1)
noncomputable def bb_X12_pass_6 (M : gMem) (x0 : Nat) (x1 : Int32) : Option ((gMem × Int32) ⊕ (Unit × gMem)) :=
  (if (8 : Int32) ≤ x1 then oI (lp_X12_pass_27 M x0 ((0 : Int32))) else ck (mT M x0 = 11) <| dr ((mR M x0 3)) fun a53 => ck (mT M a53 = 20) <| ck (inb x1 (mL M a53)) <| lw (wI M a53 x1.toNatClampNeg ((0 : Int32))) fun M56 => some (.inl (M56, (x1 + (1 : Int32)))))
noncomputable def lp_X12_pass_6 (M : gMem) (x0 : Nat) (x1 : Int32) : Option (Unit × gMem) :=
  lp (fun (q : gMem × Int32) => bb_X12_pass_6 q.1 x0 q.2) (M, x1)
noncomputable def b_X12_pass_0 (M : gMem) (x0 : Nat) : Option (Unit × gMem) :=
  ck (mT M x0 = 11) <| bd (f_X12_draw M x0) fun _ M59 => lp_X12_pass_6 M59 x0 ((0 : Int32))
noncomputable def f_X12_pass (M : gMem) (x0 : Nat) : Option (Unit × gMem) :=
  b_X12_pass_0 M x0
set_option maxHeartbeats 4000000 in
set_option maxRecDepth 100000 in
theorem tb_X12_pass_139 (X : gX p s m args meth c D cy B (gSt Z B H0) RX12 cX12_pass wsX12_pass 2) (hr : meth.sig.returnType = none) {Q : State → Prop} : ∀ (M : gMem) (x0 : Nat) (x1 : Int32) (z : (gMem × Int32) ⊕ (Unit × gMem)), bb_X12_pass_139 M x0 x1 = some z → (Sum.elim (fun (q : gMem × Int32) => gGo p l e rX12_pass s m args below meth c D cy B H0 2 0 0 Q 139 [(0, vR (some x0)), (1, vI q.2)] [] q.1) (fun (r : Unit × gMem) => Q = gMQ below D cy B H0 args s 0 0 none r.2)) z → gGo p l e rX12_pass s m args below meth c D cy B H0 2 0 0 Q 139 [(0, vR (some x0)), (1, vI x1)] [] M := by
  intro M x0 x1 z hf hK
  unfold bb_X12_pass_139 at hf
  refine g_iload_n X dX12_pass_139 rfl rfl ?_
  refine g_aload_n X dX12_pass_140 rfl rfl ?_
  obtain ⟨hT1, hf⟩ := ck_e hf
  refine g_get (ci := 10) (v := vR (mR M x0 18)) 18 X cdX12 i_X12_pass_X12 (by decide) k_X12_pass_f3 rfl dX12_pass_141 rfl hT1 rfl ?_
  obtain ⟨a2, ha2, hf⟩ := dr_e hf
  obtain ⟨hT3, hf⟩ := ck_e hf
  refine g_getN (ci := 12) (w := vR (mR M a2 11)) 11 X cdX14 i_X12_pass_X14 (by decide) (gNw X _ kn_X12_81) rfl dX12_pass_144 ha2 hT3 rfl ?_
  obtain ⟨a4, ha4, hf⟩ := dr_e hf
  obtain ⟨hT5, hf⟩ := ck_e hf
  refine g_getN (ci := 11) (w := vI (mI M a4 0)) 0 X cdX13 i_X12_pass_X13 (by decide) (gNw X _ kn_X12_122) rfl dX12_pass_147 ha4 hT5 rfl ?_
  refine g_icmp_ge (tgt := 164) X dX12_pass_150 (by decide) (fun hc => ?_) (fun hc => ?_)
  · have hf := ife_t hc hf
    refine g_aload_n X dX12_pass_164 rfl rfl ?_
    refine g_dup X dX12_pass_165 rfl ?_
    refine g_get (ci := 10) (v := vI (mI M x0 0)) 0 X cdX12 i_X12_pass_X12 (by decide) k_X12_pass_f74 rfl dX12_pass_166 rfl hT1 rfl ?_
    refine g_iconst (v := (1 : Int32)) X dX12_pass_169 (by decide) ?_
    refine g_iadd X dX12_pass_170 ?_
    refine g_putI (ci := 10) 0 X cdX12 i_X12_pass_X12 (by decide) k_X12_pass_f74 rfl dX12_pass_171 rfl hT1 (Or.inl rfl) rfl rfl rfl ?_
    obtain ⟨M6, hM6, hf⟩ := lw_e hf
    rw [← hM6]
    have hT7 : mT M6 x0 = 11 := by rw [hM6]; exact hT1
    have hT8 : mT M6 a2 = 13 := by rw [hM6]; exact hT3
    have hT9 : mT M6 a4 = 12 := by rw [hM6]; exact hT5
    obtain ⟨w10, hw10, hz10⟩ := oI_e hf
    subst hz10
    have hf := hw10
    cases hf
    refine g_eqQ hK ?_
    exact g_vret X hr dX12_pass_174
  · have hf := ife_f hc hf
    refine g_aload_n X dX12_pass_153 rfl rfl ?_
    refine g_iload_n X dX12_pass_154 rfl rfl ?_
    obtain ⟨r11, M11, hq11, hf⟩ := bd_e hf
    refine g_callV (ci := 10) (b := x0) (As := [vI x1]) (st := []) (v := none) (M1 := M11) X (m_X12_grow l hq11) (cwV 1 X.2.2.1 gX12_pass_X12_grow rfl rfl rfl (by decide +kernel) ⟨Nat.le_of_ble_eq_true rfl, Nat.le_of_ble_eq_true rfl⟩) rfl rfl rfl hT1 (by decide) rfl (Nat.le_of_ble_eq_true rfl) dX12_pass_155 ⟨by decide, by decide⟩ ?_
    refine g_iinc (v := (1 : Int32)) (lv' := [(1, vI (x1 + (1 : Int32))), (0, vR (some x0))]) X dX12_pass_158 rfl (by decide) (by decide) rfl ?_
    refine g_goto (tgt := 139) X dX12_pass_161 (by decide) ?_
    cases hf
    refine g_sub (lvsub_of _ _ [1, 0] rfl) ?_
    exact hK
set_option maxHeartbeats 4000000 in
set_option maxRecDepth 100000 in
theorem tl_X12_pass_139 (X : gX p s m args meth c D cy B (gSt Z B H0) RX12 cX12_pass wsX12_pass 2) (hr : meth.sig.returnType = none) {Q : State → Prop} : ∀ (M : gMem) (x0 : Nat) (x1 : Int32) (z : Unit × gMem), lp_X12_pass_139 M x0 x1 = some z → (fun (r : Unit × gMem) => Q = gMQ below D cy B H0 args s 0 0 none r.2) z → gGo p l e rX12_pass s m args below meth c D cy B H0 2 0 0 Q 139 [(0, vR (some x0)), (1, vI x1)] [] M := by
  intro M x0 x1 z hf hK
  refine lp_ind (P := (fun (q : gMem × Int32) (z : Unit × gMem) => (fun (r : Unit × gMem) => Q = gMQ below D cy B H0 args s 0 0 none r.2) z → gGo p l e rX12_pass s m args below meth c D cy B H0 2 0 0 Q 139 [(0, vR (some x0)), (1, vI q.2)] [] q.1)) (fun q z hq => ?_) _ _ hf hK
  intro hK
  obtain ⟨w, hw, hm⟩ := hq
  refine tb_X12_pass_139 X hr _ _ _ w hw ?_
  cases w with
  | inl a => exact hm hK
  | inr b => cases hm; exact hK
set_option maxHeartbeats 4000000 in
set_option maxRecDepth 100000 in
theorem tb_X12_pass_102 (X : gX p s m args meth c D cy B (gSt Z B H0) RX12 cX12_pass wsX12_pass 2) (hr : meth.sig.returnType = none) {Q : State → Prop} : ∀ (M : gMem) (x0 : Nat) (x1 : Int32) (z : (gMem × Int32) ⊕ (Unit × gMem)), bb_X12_pass_102 M x0 x1 = some z → (Sum.elim (fun (q : gMem × Int32) => gGo p l e rX12_pass s m args below meth c D cy B H0 2 0 0 Q 102 [(0, vR (some x0)), (1, vI q.2)] [] q.1) (fun (r : Unit × gMem) => Q = gMQ below D cy B H0 args s 0 0 none r.2)) z → gGo p l e rX12_pass s m args below meth c D cy B H0 2 0 0 Q 102 [(0, vR (some x0)), (1, vI x1)] [] M := by
  intro M x0 x1 z hf hK
  unfold bb_X12_pass_102 at hf
  refine g_iload_n X dX12_pass_102 rfl rfl ?_
  refine g_aload_n X dX12_pass_103 rfl rfl ?_
  obtain ⟨hT12, hf⟩ := ck_e hf
  refine g_get (ci := 10) (v := vR (mR M x0 18)) 18 X cdX12 i_X12_pass_X12 (by decide) k_X12_pass_f3 rfl dX12_pass_104 rfl hT12 rfl ?_
  obtain ⟨a13, ha13, hf⟩ := dr_e hf
  obtain ⟨hT14, hf⟩ := ck_e hf
  refine g_getN (ci := 12) (w := vR (mR M a13 11)) 11 X cdX14 i_X12_pass_X14 (by decide) (gNw X _ kn_X12_81) rfl dX12_pass_107 ha13 hT14 rfl ?_
  obtain ⟨a15, ha15, hf⟩ := dr_e hf
  obtain ⟨hT16, hf⟩ := ck_e hf
  refine g_getN (ci := 11) (w := vI (mI M a15 4)) 4 X cdX13 i_X12_pass_X13 (by decide) (gNw X _ kn_X12_93) rfl dX12_pass_110 ha15 hT16 rfl ?_
  refine g_icmp_ge (tgt := 137) X dX12_pass_113 (by decide) (fun hc => ?_) (fun hc => ?_)
  · have hf := ife_t hc hf
    refine g_iconst (v := (0 : Int32)) X dX12_pass_137 (by decide) ?_
    refine g_istore_n (lv' := [(1, vI (0 : Int32)), (0, vR (some x0))]) X dX12_pass_138 rfl (by decide) rfl ?_
    obtain ⟨w17, hw17, hz17⟩ := oI_e hf
    subst hz17
    have hf := hw17
    refine g_sub (lvsub_of _ _ [1, 0] rfl) ?_
    exact tl_X12_pass_139 X hr _ _ _ _ hf hK
  · have hf := ife_f hc hf
    refine g_aload_n X dX12_pass_116 rfl rfl ?_
    refine g_get (ci := 10) (v := vR (mR M x0 6)) 6 X cdX12 i_X12_pass_X12 (by decide) k_X12_pass_f32 rfl dX12_pass_117 rfl hT12 rfl ?_
    refine g_iload_n X dX12_pass_120 rfl rfl ?_
    refine g_dup2 X dX12_pass_121 rfl rfl ?_
    obtain ⟨a18, ha18, hf⟩ := dr_e hf
    obtain ⟨hT19, hf⟩ := ck_e hf
    obtain ⟨hg20, hf⟩ := ck_e hf
    refine g_iald X dX12_pass_122 ha18 hT19 hg20 ?_
    refine g_aload_n X dX12_pass_123 rfl rfl ?_
    refine g_get (ci := 10) (v := vR (mR M x0 7)) 7 X cdX12 i_X12_pass_X12 (by decide) k_X12_pass_f35 rfl dX12_pass_124 rfl hT12 rfl ?_
    refine g_iload_n X dX12_pass_127 rfl rfl ?_
    obtain ⟨a21, ha21, hf⟩ := dr_e hf
    obtain ⟨hT22, hf⟩ := ck_e hf
    obtain ⟨hg23, hf⟩ := ck_e hf
    refine g_iald X dX12_pass_128 ha21 hT22 hg23 ?_
    refine g_iadd X dX12_pass_129 ?_
    obtain ⟨hg24, hf⟩ := ck_e hf
    refine g_iast X dX12_pass_130 ha18 hT19 hg24 ?_
    obtain ⟨M25, hM25, hf⟩ := lw_e hf
    rw [← hM25]
    have hT26 : mT M25 x0 = 11 := by rw [hM25]; exact hT12
    have hT27 : mT M25 a13 = 13 := by rw [hM25]; exact hT14
    have hT28 : mT M25 a15 = 12 := by rw [hM25]; exact hT16
    have hT29 : mT M25 a18 = 20 := by rw [hM25]; exact hT19
    have hT30 : mT M25 a21 = 20 := by rw [hM25]; exact hT22
    refine g_iinc (v := (1 : Int32)) (lv' := [(1, vI (x1 + (1 : Int32))), (0, vR (some x0))]) X dX12_pass_131 rfl (by decide) (by decide) rfl ?_
    refine g_goto (tgt := 102) X dX12_pass_134 (by decide) ?_
    cases hf
    refine g_sub (lvsub_of _ _ [1, 0] rfl) ?_
    exact hK
set_option maxHeartbeats 4000000 in
set_option maxRecDepth 100000 in
theorem tl_X12_pass_102 (X : gX p s m args meth c D cy B (gSt Z B H0) RX12 cX12_pass wsX12_pass 2) (hr : meth.sig.returnType = none) {Q : State → Prop} : ∀ (M : gMem) (x0 : Nat) (x1 : Int32) (z : Unit × gMem), lp_X12_pass_102 M x0 x1 = some z → (fun (r : Unit × gMem) => Q = gMQ below D cy B H0 args s 0 0 none r.2) z → gGo p l e rX12_pass s m args below meth c D cy B H0 2 0 0 Q 102 [(0, vR (some x0)), (1, vI x1)] [] M := by
  intro M x0 x1 z hf hK
  refine lp_ind (P := (fun (q : gMem × Int32) (z : Unit × gMem) => (fun (r : Unit × gMem) => Q = gMQ below D cy B H0 args s 0 0 none r.2) z → gGo p l e rX12_pass s m args below meth c D cy B H0 2 0 0 Q 102 [(0, vR (some x0)), (1, vI q.2)] [] q.1)) (fun q z hq => ?_) _ _ hf hK
  intro hK
  obtain ⟨w, hw, hm⟩ := hq
  refine tb_X12_pass_102 X hr _ _ _ w hw ?_
  cases w with
  | inl a => exact hm hK
  | inr b => cases hm; exact hK
set_option maxHeartbeats 4000000 in
set_option maxRecDepth 100000 in
theorem t_X12_pass_94 (X : gX p s m args meth c D cy B (gSt Z B H0) RX12 cX12_pass wsX12_pass 2) (hr : meth.sig.returnType = none) {Q : State → Prop} : ∀ (M : gMem) (x0 : Nat) (x1 : Int32) (z : (gMem × Int32) ⊕ (Unit × gMem)), b_X12_pass_94 M x0 x1 = some z → (Sum.elim (fun (q : gMem × Int32) => gGo p l e rX12_pass s m args below meth c D cy B H0 2 0 0 Q 59 [(0, vR (some x0)), (1, vI q.2)] [] q.1) (fun (r : Unit × gMem) => Q = gMQ below D cy B H0 args s 0 0 none r.2)) z → gGo p l e rX12_pass s m args below meth c D cy B H0 2 0 0 Q 94 [(0, vR (some x0)), (1, vI x1)] [] M := by
  intro M x0 x1 z hf hK
  unfold b_X12_pass_94 at hf
  refine g_iinc (v := (1 : Int32)) (lv' := [(1, vI (x1 + (1 : Int32))), (0, vR (some x0))]) X dX12_pass_94 rfl (by decide) (by decide) rfl ?_
  refine g_goto (tgt := 59) X dX12_pass_97 (by decide) ?_
  cases hf
  refine g_sub (lvsub_of _ _ [1, 0] rfl) ?_
  exact hK
set_option maxHeartbeats 4000000 in
set_option maxRecDepth 100000 in
theorem tb_X12_pass_59 (X : gX p s m args meth c D cy B (gSt Z B H0) RX12 cX12_pass wsX12_pass 2) (hr : meth.sig.returnType = none) {Q : State → Prop} : ∀ (M : gMem) (x0 : Nat) (x1 : Int32) (z : (gMem × Int32) ⊕ (Unit × gMem)), bb_X12_pass_59 M x0 x1 = some z → (Sum.elim (fun (q : gMem × Int32) => gGo p l e rX12_pass s m args below meth c D cy B H0 2 0 0 Q 59 [(0, vR (some x0)), (1, vI q.2)] [] q.1) (fun (r : Unit × gMem) => Q = gMQ below D cy B H0 args s 0 0 none r.2)) z → gGo p l e rX12_pass s m args below meth c D cy B H0 2 0 0 Q 59 [(0, vR (some x0)), (1, vI x1)] [] M := by
  intro M x0 x1 z hf hK
  unfold bb_X12_pass_59 at hf
  refine g_iload_n X dX12_pass_59 rfl rfl ?_
  refine g_aload_n X dX12_pass_60 rfl rfl ?_
  obtain ⟨hT31, hf⟩ := ck_e hf
  refine g_get (ci := 10) (v := vR (mR M x0 18)) 18 X cdX12 i_X12_pass_X12 (by decide) k_X12_pass_f3 rfl dX12_pass_61 rfl hT31 rfl ?_
  obtain ⟨a32, ha32, hf⟩ := dr_e hf
  obtain ⟨hT33, hf⟩ := ck_e hf
  refine g_getN (ci := 12) (w := vR (mR M a32 11)) 11 X cdX14 i_X12_pass_X14 (by decide) (gNw X _ kn_X12_81) rfl dX12_pass_64 ha32 hT33 rfl ?_
  obtain ⟨a34, ha34, hf⟩ := dr_e hf
  obtain ⟨hT35, hf⟩ := ck_e hf
  refine g_getN (ci := 11) (w := vI (mI M a34 11)) 11 X cdX13 i_X12_pass_X13 (by decide) (gNw X _ kn_X12_113) rfl dX12_pass_67 ha34 hT35 rfl ?_
  refine g_icmp_ge (tgt := 100) X dX12_pass_70 (by decide) (fun hc => ?_) (fun hc => ?_)
  · have hf := ife_t hc hf
    refine g_iconst (v := (0 : Int32)) X dX12_pass_100 (by decide) ?_
    refine g_istore_n (lv' := [(1, vI (0 : Int32)), (0, vR (some x0))]) X dX12_pass_101 rfl (by decide) rfl ?_
    obtain ⟨w36, hw36, hz36⟩ := oI_e hf
    subst hz36
    have hf := hw36
    refine g_sub (lvsub_of _ _ [1, 0] rfl) ?_
    exact tl_X12_pass_102 X hr _ _ _ _ hf hK
  · have hf := ife_f hc hf
    refine g_aload_n X dX12_pass_73 rfl rfl ?_
    refine g_get (ci := 10) (v := vR (mR M x0 18)) 18 X cdX12 i_X12_pass_X12 (by decide) k_X12_pass_f3 rfl dX12_pass_74 rfl hT31 rfl ?_
    refine g_getN (ci := 12) (w := vR (mR M a32 11)) 11 X cdX14 i_X12_pass_X14 (by decide) (gNw X _ kn_X12_81) rfl dX12_pass_77 ha32 hT33 rfl ?_
    refine g_getN (ci := 11) (w := vR (mR M a34 12)) 12 X cdX13 i_X12_pass_X13 (by decide) (gNw X _ kn_X12_116) rfl dX12_pass_80 ha34 hT35 rfl ?_
    refine g_iload_n X dX12_pass_83 rfl rfl ?_
    obtain ⟨a37, ha37, hf⟩ := dr_e hf
    obtain ⟨hT38, hf⟩ := ck_e hf
    obtain ⟨hg39, hf⟩ := ck_e hf
    refine g_iald X dX12_pass_84 ha37 hT38 hg39 ?_
    refine g_iconst (v := (-1 : Int32)) X dX12_pass_85 (by decide) ?_
    refine g_icmp_ne (tgt := 94) X dX12_pass_86 (by decide) (fun hc => ?_) (fun hc => ?_)
    · have hf := ife_f hc hf
      refine g_sub (lvsub_of _ _ [0, 1] rfl) ?_
      exact t_X12_pass_94 X hr _ _ _ _ hf hK
    · have hf := ife_t hc hf
      refine g_aload_n X dX12_pass_89 rfl rfl ?_
      refine g_iload_n X dX12_pass_90 rfl rfl ?_
      obtain ⟨r40, M40, hq40, hf⟩ := bd_e hf
      refine g_callV (ci := 10) (b := x0) (As := [vI x1]) (st := []) (v := none) (M1 := M40) X (m_X12_split l hq40) (cwV 1 X.2.2.1 gX12_pass_X12_split rfl rfl rfl (by decide +kernel) ⟨Nat.le_of_ble_eq_true rfl, Nat.le_of_ble_eq_true rfl⟩) rfl rfl rfl hT31 (by decide) rfl (Nat.le_of_ble_eq_true rfl) dX12_pass_91 ⟨by decide, by decide⟩ ?_
      refine g_sub (lvsub_of _ _ [0, 1] rfl) ?_
      exact t_X12_pass_94 X hr _ _ _ _ hf hK
set_option maxHeartbeats 4000000 in
set_option maxRecDepth 100000 in
theorem tl_X12_pass_59 (X : gX p s m args meth c D cy B (gSt Z B H0) RX12 cX12_pass wsX12_pass 2) (hr : meth.sig.returnType = none) {Q : State → Prop} : ∀ (M : gMem) (x0 : Nat) (x1 : Int32) (z : Unit × gMem), lp_X12_pass_59 M x0 x1 = some z → (fun (r : Unit × gMem) => Q = gMQ below D cy B H0 args s 0 0 none r.2) z → gGo p l e rX12_pass s m args below meth c D cy B H0 2 0 0 Q 59 [(0, vR (some x0)), (1, vI x1)] [] M := by
  intro M x0 x1 z hf hK
  refine lp_ind (P := (fun (q : gMem × Int32) (z : Unit × gMem) => (fun (r : Unit × gMem) => Q = gMQ below D cy B H0 args s 0 0 none r.2) z → gGo p l e rX12_pass s m args below meth c D cy B H0 2 0 0 Q 59 [(0, vR (some x0)), (1, vI q.2)] [] q.1)) (fun q z hq => ?_) _ _ hf hK
  intro hK
  obtain ⟨w, hw, hm⟩ := hq
  refine tb_X12_pass_59 X hr _ _ _ w hw ?_
  cases w with
  | inl a => exact hm hK
  | inr b => cases hm; exact hK
set_option maxHeartbeats 4000000 in
set_option maxRecDepth 100000 in
theorem tb_X12_pass_27 (X : gX p s m args meth c D cy B (gSt Z B H0) RX12 cX12_pass wsX12_pass 2) (hr : meth.sig.returnType = none) {Q : State → Prop} : ∀ (M : gMem) (x0 : Nat) (x1 : Int32) (z : (gMem × Int32) ⊕ (Unit × gMem)), bb_X12_pass_27 M x0 x1 = some z → (Sum.elim (fun (q : gMem × Int32) => gGo p l e rX12_pass s m args below meth c D cy B H0 2 0 0 Q 27 [(0, vR (some x0)), (1, vI q.2)] [] q.1) (fun (r : Unit × gMem) => Q = gMQ below D cy B H0 args s 0 0 none r.2)) z → gGo p l e rX12_pass s m args below meth c D cy B H0 2 0 0 Q 27 [(0, vR (some x0)), (1, vI x1)] [] M := by
  intro M x0 x1 z hf hK
  unfold bb_X12_pass_27 at hf
  refine g_iload_n X dX12_pass_27 rfl rfl ?_
  refine g_aload_n X dX12_pass_28 rfl rfl ?_
  obtain ⟨hT41, hf⟩ := ck_e hf
  refine g_get (ci := 10) (v := vR (mR M x0 18)) 18 X cdX12 i_X12_pass_X12 (by decide) k_X12_pass_f3 rfl dX12_pass_29 rfl hT41 rfl ?_
  obtain ⟨a42, ha42, hf⟩ := dr_e hf
  obtain ⟨hT43, hf⟩ := ck_e hf
  refine g_getN (ci := 12) (w := vR (mR M a42 11)) 11 X cdX14 i_X12_pass_X14 (by decide) (gNw X _ kn_X12_81) rfl dX12_pass_32 ha42 hT43 rfl ?_
  obtain ⟨a44, ha44, hf⟩ := dr_e hf
  obtain ⟨hT45, hf⟩ := ck_e hf
  refine g_getN (ci := 11) (w := vI (mI M a44 4)) 4 X cdX13 i_X12_pass_X13 (by decide) (gNw X _ kn_X12_93) rfl dX12_pass_35 ha44 hT45 rfl ?_
  refine g_icmp_ge (tgt := 57) X dX12_pass_38 (by decide) (fun hc => ?_) (fun hc => ?_)
  · have hf := ife_t hc hf
    refine g_iconst (v := (0 : Int32)) X dX12_pass_57 (by decide) ?_
    refine g_istore_n (lv' := [(1, vI (0 : Int32)), (0, vR (some x0))]) X dX12_pass_58 rfl (by decide) rfl ?_
    obtain ⟨w46, hw46, hz46⟩ := oI_e hf
    subst hz46
    have hf := hw46
    refine g_sub (lvsub_of _ _ [1, 0] rfl) ?_
    exact tl_X12_pass_59 X hr _ _ _ _ hf hK
  · have hf := ife_f hc hf
    refine g_aload_n X dX12_pass_41 rfl rfl ?_
    refine g_aload_n X dX12_pass_42 rfl rfl ?_
    refine g_get (ci := 10) (v := vR (mR M x0 14)) 14 X cdX12 i_X12_pass_X12 (by decide) k_X12_pass_f56 rfl dX12_pass_43 rfl hT41 rfl ?_
    refine g_iload_n X dX12_pass_46 rfl rfl ?_
    obtain ⟨a47, ha47, hf⟩ := dr_e hf
    obtain ⟨hT48, hf⟩ := ck_e hf
    obtain ⟨hg49, hf⟩ := ck_e hf
    refine g_iald X dX12_pass_47 ha47 hT48 hg49 ?_
    obtain ⟨r50, M50, hq50, hf⟩ := bd_e hf
    refine g_callV (ci := 10) (b := x0) (As := [vI (mI M a47 x1.toNatClampNeg)]) (st := []) (v := none) (M1 := M50) X (m_X12_fisher l hq50) (cwV 1 X.2.2.1 gX12_pass_X12_fisher rfl rfl rfl (by decide +kernel) ⟨Nat.le_of_ble_eq_true rfl, Nat.le_of_ble_eq_true rfl⟩) rfl rfl rfl hT41 (by decide) rfl (Nat.le_of_ble_eq_true rfl) dX12_pass_48 ⟨by decide, by decide⟩ ?_
    refine g_iinc (v := (1 : Int32)) (lv' := [(1, vI (x1 + (1 : Int32))), (0, vR (some x0))]) X dX12_pass_51 rfl (by decide) (by decide) rfl ?_
    refine g_goto (tgt := 27) X dX12_pass_54 (by decide) ?_
    cases hf
    refine g_sub (lvsub_of _ _ [1, 0] rfl) ?_
    exact hK
set_option maxHeartbeats 4000000 in
set_option maxRecDepth 100000 in
theorem tl_X12_pass_27 (X : gX p s m args meth c D cy B (gSt Z B H0) RX12 cX12_pass wsX12_pass 2) (hr : meth.sig.returnType = none) {Q : State → Prop} : ∀ (M : gMem) (x0 : Nat) (x1 : Int32) (z : Unit × gMem), lp_X12_pass_27 M x0 x1 = some z → (fun (r : Unit × gMem) => Q = gMQ below D cy B H0 args s 0 0 none r.2) z → gGo p l e rX12_pass s m args below meth c D cy B H0 2 0 0 Q 27 [(0, vR (some x0)), (1, vI x1)] [] M := by
  intro M x0 x1 z hf hK
  refine lp_ind (P := (fun (q : gMem × Int32) (z : Unit × gMem) => (fun (r : Unit × gMem) => Q = gMQ below D cy B H0 args s 0 0 none r.2) z → gGo p l e rX12_pass s m args below meth c D cy B H0 2 0 0 Q 27 [(0, vR (some x0)), (1, vI q.2)] [] q.1)) (fun q z hq => ?_) _ _ hf hK
  intro hK
  obtain ⟨w, hw, hm⟩ := hq
  refine tb_X12_pass_27 X hr _ _ _ w hw ?_
  cases w with
  | inl a => exact hm hK
  | inr b => cases hm; exact hK
set_option maxHeartbeats 4000000 in
set_option maxRecDepth 100000 in
theorem tb_X12_pass_6 (X : gX p s m args meth c D cy B (gSt Z B H0) RX12 cX12_pass wsX12_pass 2) (hr : meth.sig.returnType = none) {Q : State → Prop} : ∀ (M : gMem) (x0 : Nat) (x1 : Int32) (z : (gMem × Int32) ⊕ (Unit × gMem)), bb_X12_pass_6 M x0 x1 = some z → (Sum.elim (fun (q : gMem × Int32) => gGo p l e rX12_pass s m args below meth c D cy B H0 2 0 0 Q 6 [(0, vR (some x0)), (1, vI q.2)] [] q.1) (fun (r : Unit × gMem) => Q = gMQ below D cy B H0 args s 0 0 none r.2)) z → gGo p l e rX12_pass s m args below meth c D cy B H0 2 0 0 Q 6 [(0, vR (some x0)), (1, vI x1)] [] M := by
  intro M x0 x1 z hf hK
  unfold bb_X12_pass_6 at hf
  refine g_iload_n X dX12_pass_6 rfl rfl ?_
  refine g_bipush (v := (8 : Int32)) X dX12_pass_7 (by decide) ?_
  refine g_icmp_ge (tgt := 25) X dX12_pass_9 (by decide) (fun hc => ?_) (fun hc => ?_)
  · have hf := ife_t hc hf
    refine g_iconst (v := (0 : Int32)) X dX12_pass_25 (by decide) ?_
    refine g_istore_n (lv' := [(1, vI (0 : Int32)), (0, vR (some x0))]) X dX12_pass_26 rfl (by decide) rfl ?_
    obtain ⟨w51, hw51, hz51⟩ := oI_e hf
    subst hz51
    have hf := hw51
    refine g_sub (lvsub_of _ _ [1, 0] rfl) ?_
    exact tl_X12_pass_27 X hr _ _ _ _ hf hK
  · have hf := ife_f hc hf
    refine g_aload_n X dX12_pass_12 rfl rfl ?_
    obtain ⟨hT52, hf⟩ := ck_e hf
    refine g_get (ci := 10) (v := vR (mR M x0 3)) 3 X cdX12 i_X12_pass_X12 (by decide) k_X12_pass_f23 rfl dX12_pass_13 rfl hT52 rfl ?_
    refine g_iload_n X dX12_pass_16 rfl rfl ?_
    refine g_iconst (v := (0 : Int32)) X dX12_pass_17 (by decide) ?_
    obtain ⟨a53, ha53, hf⟩ := dr_e hf
    obtain ⟨hT54, hf⟩ := ck_e hf
    obtain ⟨hg55, hf⟩ := ck_e hf
    refine g_iast X dX12_pass_18 ha53 hT54 hg55 ?_
    obtain ⟨M56, hM56, hf⟩ := lw_e hf
    rw [← hM56]
    have hT57 : mT M56 x0 = 11 := by rw [hM56]; exact hT52
    have hT58 : mT M56 a53 = 20 := by rw [hM56]; exact hT54
    refine g_iinc (v := (1 : Int32)) (lv' := [(1, vI (x1 + (1 : Int32))), (0, vR (some x0))]) X dX12_pass_19 rfl (by decide) (by decide) rfl ?_
    refine g_goto (tgt := 6) X dX12_pass_22 (by decide) ?_
    cases hf
    refine g_sub (lvsub_of _ _ [1, 0] rfl) ?_
    exact hK
set_option maxHeartbeats 4000000 in
set_option maxRecDepth 100000 in
theorem tl_X12_pass_6 (X : gX p s m args meth c D cy B (gSt Z B H0) RX12 cX12_pass wsX12_pass 2) (hr : meth.sig.returnType = none) {Q : State → Prop} : ∀ (M : gMem) (x0 : Nat) (x1 : Int32) (z : Unit × gMem), lp_X12_pass_6 M x0 x1 = some z → (fun (r : Unit × gMem) => Q = gMQ below D cy B H0 args s 0 0 none r.2) z → gGo p l e rX12_pass s m args below meth c D cy B H0 2 0 0 Q 6 [(0, vR (some x0)), (1, vI x1)] [] M := by
  intro M x0 x1 z hf hK
  refine lp_ind (P := (fun (q : gMem × Int32) (z : Unit × gMem) => (fun (r : Unit × gMem) => Q = gMQ below D cy B H0 args s 0 0 none r.2) z → gGo p l e rX12_pass s m args below meth c D cy B H0 2 0 0 Q 6 [(0, vR (some x0)), (1, vI q.2)] [] q.1)) (fun q z hq => ?_) _ _ hf hK
  intro hK
  obtain ⟨w, hw, hm⟩ := hq
  refine tb_X12_pass_6 X hr _ _ _ w hw ?_
  cases w with
  | inl a => exact hm hK
  | inr b => cases hm; exact hK
set_option maxHeartbeats 4000000 in
set_option maxRecDepth 100000 in
theorem t_X12_pass_0 (X : gX p s m args meth c D cy B (gSt Z B H0) RX12 cX12_pass wsX12_pass 2) (hr : meth.sig.returnType = none) {Q : State → Prop} : ∀ (M : gMem) (x0 : Nat) (z : Unit × gMem), b_X12_pass_0 M x0 = some z → (fun (r : Unit × gMem) => Q = gMQ below D cy B H0 args s 0 0 none r.2) z → gGo p l e rX12_pass s m args below meth c D cy B H0 2 0 0 Q 0 [(0, vR (some x0))] [] M := by
  intro M x0 z hf hK
  unfold b_X12_pass_0 at hf
  refine g_aload_n X dX12_pass_0 rfl rfl ?_
  obtain ⟨hT60, hf⟩ := ck_e hf
  obtain ⟨r59, M59, hq59, hf⟩ := bd_e hf
  refine g_callV (ci := 10) (b := x0) (As := []) (st := []) (v := none) (M1 := M59) X (m_X12_draw l hq59) (cwV 0 X.2.2.1 gX12_pass_X12_draw rfl rfl rfl (by decide +kernel) ⟨Nat.le_of_ble_eq_true rfl, Nat.le_of_ble_eq_true rfl⟩) rfl rfl rfl hT60 (by decide) rfl (Nat.le_of_ble_eq_true rfl) dX12_pass_1 ⟨by decide, by decide⟩ ?_
  refine g_iconst (v := (0 : Int32)) X dX12_pass_4 (by decide) ?_
  refine g_istore_n (lv' := [(1, vI (0 : Int32)), (0, vR (some x0))]) X dX12_pass_5 rfl (by decide) rfl ?_
  refine g_sub (lvsub_of _ _ [1, 0] rfl) ?_
  exact tl_X12_pass_6 X hr _ _ _ _ hf hK
set_option maxHeartbeats 4000000 in
set_option maxRecDepth 100000 in
theorem m_X12_pass (l : Launch) {D : va_G} {cy : Nat → ClassId} {B : Nat} {H0 : Heap} {Z : Nat → Nat} {M M1 : gMem} {x0 : Nat} {r : Unit} (hf : f_X12_pass M x0 = some (r, M1)) : Met l yX12_pass wsX12_pass rX12_pass (va_Pc (Value.ref x0 :: List.map gv []) (gPre D cy B H0 (gSt Z B H0) M)) (gQ D cy B H0 none M1) 0 0 (gA B) := by
  refine Met.ofW (cc := cX12_pass) (maxL := 2) (ret := none) (by decide) rfl ?_
  intro p e s m args below meth c s₁ Bd hml hv
  obtain ⟨rfl, hW, hKK, hFs⟩ := hv
  have X : gX p s m _ meth c D cy B (gSt Z B H0) RX12 cX12_pass wsX12_pass 2 := ⟨Bd.exec, Bd.bytes, atoms_spec (ws := wsX12_pass) Bd.pre, findClass_of_methodNamed Bd.named, hml, hKK, by rw [hW.1]; exact hW.2.1, Bd.notSynchronized, hFs⟩
  have hr := Bd.returns
  have hl := lv_entry ([.ref x0]) (n := 2) (Nat.le_of_ble_eq_true rfl)
  show W p l e rX12_pass s m _ below meth c s.heap [] 0 0 _ (entryFrame m ([.ref x0] : List Value).toArray 2)
  rw [lg_entry_eq]
  generalize (lg_sl ([.ref x0]) ++ List.replicate (2 - (lg_sl ([.ref x0])).length) Slot.unset).toArray = ls at hl ⊢
  have hl : lv_has ls 2 (List.map gq [(0, vR (some x0))]) := hl
  exact t_X12_pass_0 X hr _ _ _ hf rfl s.heap [] ls hW va_S.rf (lv_has_sub hl (lvsub_of _ _ [0] rfl))
end
