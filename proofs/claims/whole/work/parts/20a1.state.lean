section
variable {p : Program} {l : Launch} {e : Env} {s : State} {m : MethodId} {args : Array Value} {below : List Frame} {meth : Method} {c : Code} {D : va_G} {cy : Nat → ClassId} {B : Nat} {H0 : Heap} {Z : Nat → Nat}
/-! ## TideLotsModel$State.copy([I[I)V -/
theorem dX12_copy_0 : decode cX12_copy 0 = .ok (.aload_n 1, 1) := by decide +kernel
theorem dX12_copy_1 : decode cX12_copy 1 = .ok (.iconst 0, 1) := by decide +kernel
theorem dX12_copy_2 : decode cX12_copy 2 = .ok (.aload_n 2, 1) := by decide +kernel
theorem dX12_copy_3 : decode cX12_copy 3 = .ok (.iconst 0, 1) := by decide +kernel
theorem dX12_copy_4 : decode cX12_copy 4 = .ok (.aload_n 1, 1) := by decide +kernel
theorem dX12_copy_5 : decode cX12_copy 5 = .ok (.arraylength, 1) := by decide +kernel
theorem dX12_copy_6 : decode cX12_copy 6 = .ok (.invokestatic 68, 3) := by decide +kernel
theorem dX12_copy_9 : decode cX12_copy 9 = .ok (.return_, 1) := by decide +kernel
theorem k_X12_copy_ac68 : Cond.methodLink RX12 68 arraycopyName ∈ wsX12_copy := by decide +kernel
theorem k_X12_copy_acn : Cond.native arraycopyName ∈ wsX12_copy := by decide +kernel
theorem k_X12_copy_acs : Cond.static arraycopyName ∈ wsX12_copy := by decide +kernel
theorem k_X12_copy_aci : Cond.initialized "java/lang/System" ∈ wsX12_copy := by decide +kernel
abbrev rX12_copy : Room := { frames := 1, cells := 0, slots := 0, locals := 60 }
noncomputable def b_X12_copy_0 (M : gMem) (x1 : Option Nat) (x2 : Option Nat) : Option (Unit × gMem) :=
  dr x1 fun a1 => ck (mT M a1 = 20) <| dr x2 fun a3 => ck (mT M a3 = 20) <| ck (¬ (Int32.ofNat (mL M a1)) < 0) <| ck (((0 : Int32)).toNatClampNeg + ((Int32.ofNat (mL M a1))).toNatClampNeg ≤ mL M a1) <| ck (((0 : Int32)).toNatClampNeg + ((Int32.ofNat (mL M a1))).toNatClampNeg ≤ mL M a3) <| lw (cpI M a1 ((0 : Int32)).toNatClampNeg a3 ((0 : Int32)).toNatClampNeg ((Int32.ofNat (mL M a1))).toNatClampNeg) fun M8 => some ((), M8)
noncomputable def f_X12_copy (M : gMem) (x0 : Nat) (x1 : Option Nat) (x2 : Option Nat) : Option (Unit × gMem) :=
  b_X12_copy_0 M x1 x2
set_option maxHeartbeats 4000000 in
set_option maxRecDepth 100000 in
theorem t_X12_copy_0 (X : gX p s m args meth c D cy B (gSt Z B H0) RX12 cX12_copy wsX12_copy 3) (hr : meth.sig.returnType = none) {Q : State → Prop} : ∀ (M : gMem) (x1 : Option Nat) (x2 : Option Nat) (z : Unit × gMem), b_X12_copy_0 M x1 x2 = some z → (fun (r : Unit × gMem) => Q = gMQ below D cy B H0 args s 0 0 none r.2) z → gGo p l e rX12_copy s m args below meth c D cy B H0 3 0 0 Q 0 [(1, vR x1), (2, vR x2)] [] M := by
  intro M x1 x2 z hf hK
  unfold b_X12_copy_0 at hf
  refine g_aload_n X dX12_copy_0 rfl rfl ?_
  refine g_iconst (v := (0 : Int32)) X dX12_copy_1 (by decide) ?_
  refine g_aload_n X dX12_copy_2 rfl rfl ?_
  refine g_iconst (v := (0 : Int32)) X dX12_copy_3 (by decide) ?_
  refine g_aload_n X dX12_copy_4 rfl rfl ?_
  obtain ⟨a1, ha1, hf⟩ := dr_e hf
  obtain ⟨hT2, hf⟩ := ck_e hf
  refine g_alen (t0 := 0) X dX12_copy_5 ha1 hT2 (by decide) rfl ?_
  obtain ⟨a3, ha3, hf⟩ := dr_e hf
  obtain ⟨hT4, hf⟩ := ck_e hf
  obtain ⟨hg5, hf⟩ := ck_e hf
  obtain ⟨hg6, hf⟩ := ck_e hf
  obtain ⟨hg7, hf⟩ := ck_e hf
  refine g_copy X k_X12_copy_ac68 k_X12_copy_acn k_X12_copy_acs k_X12_copy_aci ha1 ha3 hT2 hT4 (by decide) (by decide) hg5 hg6 hg7 (Nat.le_of_ble_eq_true rfl) (Nat.le_of_ble_eq_true rfl) dX12_copy_6 ?_
  obtain ⟨M8, hM8, hf⟩ := lw_e hf
  rw [← hM8]
  have hT9 : mT M8 a1 = 20 := by rw [hM8]; exact hT2
  have hT10 : mT M8 a3 = 20 := by rw [hM8]; exact hT4
  cases hf
  refine g_eqQ hK ?_
  exact g_vret X hr dX12_copy_9
set_option maxHeartbeats 4000000 in
set_option maxRecDepth 100000 in
theorem m_X12_copy (l : Launch) {D : va_G} {cy : Nat → ClassId} {B : Nat} {H0 : Heap} {Z : Nat → Nat} {M M1 : gMem} {x0 : Nat} {x1 : Option Nat} {x2 : Option Nat} {r : Unit} (hf : f_X12_copy M x0 x1 x2 = some (r, M1)) : Met l yX12_copy wsX12_copy rX12_copy (va_Pc (Value.ref x0 :: List.map gv [vR x1, vR x2]) (gPre D cy B H0 (gSt Z B H0) M)) (gQ D cy B H0 none M1) 0 0 (gA B) := by
  refine Met.ofW (cc := cX12_copy) (maxL := 3) (ret := none) (by decide) rfl ?_
  intro p e s m args below meth c s₁ Bd hml hv
  obtain ⟨rfl, hW, hKK, hFs⟩ := hv
  have X : gX p s m _ meth c D cy B (gSt Z B H0) RX12 cX12_copy wsX12_copy 3 := ⟨Bd.exec, Bd.bytes, atoms_spec (ws := wsX12_copy) Bd.pre, findClass_of_methodNamed Bd.named, hml, hKK, by rw [hW.1]; exact hW.2.1, Bd.notSynchronized, hFs⟩
  have hr := Bd.returns
  rcases x1 with _ | x1
  · rcases x2 with _ | x2
    · have hl := lv_entry ([.ref x0, .null, .null]) (n := 3) (Nat.le_of_ble_eq_true rfl)
      show W p l e rX12_copy s m _ below meth c s.heap [] 0 0 _ (entryFrame m ([.ref x0, .null, .null] : List Value).toArray 3)
      rw [lg_entry_eq]
      generalize (lg_sl ([.ref x0, .null, .null]) ++ List.replicate (3 - (lg_sl ([.ref x0, .null, .null])).length) Slot.unset).toArray = ls at hl ⊢
      have hl : lv_has ls 3 (List.map gq [(0, vR (some x0)), (1, vR none), (2, vR none)]) := hl
      exact t_X12_copy_0 X hr _ _ _ _ hf rfl s.heap [] ls hW va_S.rf (lv_has_sub hl (lvsub_of _ _ [1, 2] rfl))
    · have hl := lv_entry ([.ref x0, .null, .ref x2]) (n := 3) (Nat.le_of_ble_eq_true rfl)
      show W p l e rX12_copy s m _ below meth c s.heap [] 0 0 _ (entryFrame m ([.ref x0, .null, .ref x2] : List Value).toArray 3)
      rw [lg_entry_eq]
      generalize (lg_sl ([.ref x0, .null, .ref x2]) ++ List.replicate (3 - (lg_sl ([.ref x0, .null, .ref x2])).length) Slot.unset).toArray = ls at hl ⊢
      have hl : lv_has ls 3 (List.map gq [(0, vR (some x0)), (1, vR none), (2, vR (some x2))]) := hl
      exact t_X12_copy_0 X hr _ _ _ _ hf rfl s.heap [] ls hW va_S.rf (lv_has_sub hl (lvsub_of _ _ [1, 2] rfl))
  · rcases x2 with _ | x2
    · have hl := lv_entry ([.ref x0, .ref x1, .null]) (n := 3) (Nat.le_of_ble_eq_true rfl)
      show W p l e rX12_copy s m _ below meth c s.heap [] 0 0 _ (entryFrame m ([.ref x0, .ref x1, .null] : List Value).toArray 3)
      rw [lg_entry_eq]
      generalize (lg_sl ([.ref x0, .ref x1, .null]) ++ List.replicate (3 - (lg_sl ([.ref x0, .ref x1, .null])).length) Slot.unset).toArray = ls at hl ⊢
      have hl : lv_has ls 3 (List.map gq [(0, vR (some x0)), (1, vR (some x1)), (2, vR none)]) := hl
      exact t_X12_copy_0 X hr _ _ _ _ hf rfl s.heap [] ls hW va_S.rf (lv_has_sub hl (lvsub_of _ _ [1, 2] rfl))
    · have hl := lv_entry ([.ref x0, .ref x1, .ref x2]) (n := 3) (Nat.le_of_ble_eq_true rfl)
      show W p l e rX12_copy s m _ below meth c s.heap [] 0 0 _ (entryFrame m ([.ref x0, .ref x1, .ref x2] : List Value).toArray 3)
      rw [lg_entry_eq]
      generalize (lg_sl ([.ref x0, .ref x1, .ref x2]) ++ List.replicate (3 - (lg_sl ([.ref x0, .ref x1, .ref x2])).length) Slot.unset).toArray = ls at hl ⊢
      have hl : lv_has ls 3 (List.map gq [(0, vR (some x0)), (1, vR (some x1)), (2, vR (some x2))]) := hl
      exact t_X12_copy_0 X hr _ _ _ _ hf rfl s.heap [] ls hW va_S.rf (lv_has_sub hl (lvsub_of _ _ [1, 2] rfl))
/-! ## TideLotsModel$State.become(LTideLotsModel$State;)V -/
theorem dX12_become_0 : decode cX12_become 0 = .ok (.aload_n 0, 1) := by decide +kernel
theorem dX12_become_1 : decode cX12_become 1 = .ok (.aload_n 1, 1) := by decide +kernel
theorem dX12_become_2 : decode cX12_become 2 = .ok (.getfield 74, 3) := by decide +kernel
theorem dX12_become_5 : decode cX12_become 5 = .ok (.putfield 74, 3) := by decide +kernel
theorem dX12_become_8 : decode cX12_become 8 = .ok (.aload_n 0, 1) := by decide +kernel
theorem dX12_become_9 : decode cX12_become 9 = .ok (.aload_n 1, 1) := by decide +kernel
theorem dX12_become_10 : decode cX12_become 10 = .ok (.getfield 15, 3) := by decide +kernel
theorem dX12_become_13 : decode cX12_become 13 = .ok (.putfield 15, 3) := by decide +kernel
theorem dX12_become_16 : decode cX12_become 16 = .ok (.aload_n 0, 1) := by decide +kernel
theorem dX12_become_17 : decode cX12_become 17 = .ok (.aload_n 1, 1) := by decide +kernel
theorem dX12_become_18 : decode cX12_become 18 = .ok (.getfield 19, 3) := by decide +kernel
theorem dX12_become_21 : decode cX12_become 21 = .ok (.aload_n 0, 1) := by decide +kernel
theorem dX12_become_22 : decode cX12_become 22 = .ok (.getfield 19, 3) := by decide +kernel
theorem dX12_become_25 : decode cX12_become 25 = .ok (.invokevirtual 77, 3) := by decide +kernel
theorem dX12_become_28 : decode cX12_become 28 = .ok (.aload_n 0, 1) := by decide +kernel
theorem dX12_become_29 : decode cX12_become 29 = .ok (.aload_n 1, 1) := by decide +kernel
theorem dX12_become_30 : decode cX12_become 30 = .ok (.getfield 23, 3) := by decide +kernel
theorem dX12_become_33 : decode cX12_become 33 = .ok (.aload_n 0, 1) := by decide +kernel
theorem dX12_become_34 : decode cX12_become 34 = .ok (.getfield 23, 3) := by decide +kernel
theorem dX12_become_37 : decode cX12_become 37 = .ok (.invokevirtual 77, 3) := by decide +kernel
theorem dX12_become_40 : decode cX12_become 40 = .ok (.aload_n 0, 1) := by decide +kernel
theorem dX12_become_41 : decode cX12_become 41 = .ok (.aload_n 1, 1) := by decide +kernel
theorem dX12_become_42 : decode cX12_become 42 = .ok (.getfield 26, 3) := by decide +kernel
theorem dX12_become_45 : decode cX12_become 45 = .ok (.aload_n 0, 1) := by decide +kernel
theorem dX12_become_46 : decode cX12_become 46 = .ok (.getfield 26, 3) := by decide +kernel
theorem dX12_become_49 : decode cX12_become 49 = .ok (.invokevirtual 77, 3) := by decide +kernel
theorem dX12_become_52 : decode cX12_become 52 = .ok (.aload_n 0, 1) := by decide +kernel
theorem dX12_become_53 : decode cX12_become 53 = .ok (.aload_n 1, 1) := by decide +kernel
theorem dX12_become_54 : decode cX12_become 54 = .ok (.getfield 29, 3) := by decide +kernel
theorem dX12_become_57 : decode cX12_become 57 = .ok (.aload_n 0, 1) := by decide +kernel
theorem dX12_become_58 : decode cX12_become 58 = .ok (.getfield 29, 3) := by decide +kernel
theorem dX12_become_61 : decode cX12_become 61 = .ok (.invokevirtual 77, 3) := by decide +kernel
theorem dX12_become_64 : decode cX12_become 64 = .ok (.aload_n 0, 1) := by decide +kernel
theorem dX12_become_65 : decode cX12_become 65 = .ok (.aload_n 1, 1) := by decide +kernel
theorem dX12_become_66 : decode cX12_become 66 = .ok (.getfield 32, 3) := by decide +kernel
theorem dX12_become_69 : decode cX12_become 69 = .ok (.aload_n 0, 1) := by decide +kernel
theorem dX12_become_70 : decode cX12_become 70 = .ok (.getfield 32, 3) := by decide +kernel
theorem dX12_become_73 : decode cX12_become 73 = .ok (.invokevirtual 77, 3) := by decide +kernel
theorem dX12_become_76 : decode cX12_become 76 = .ok (.aload_n 0, 1) := by decide +kernel
theorem dX12_become_77 : decode cX12_become 77 = .ok (.aload_n 1, 1) := by decide +kernel
theorem dX12_become_78 : decode cX12_become 78 = .ok (.getfield 35, 3) := by decide +kernel
theorem dX12_become_81 : decode cX12_become 81 = .ok (.aload_n 0, 1) := by decide +kernel
theorem dX12_become_82 : decode cX12_become 82 = .ok (.getfield 35, 3) := by decide +kernel
theorem dX12_become_85 : decode cX12_become 85 = .ok (.invokevirtual 77, 3) := by decide +kernel
theorem dX12_become_88 : decode cX12_become 88 = .ok (.aload_n 0, 1) := by decide +kernel
theorem dX12_become_89 : decode cX12_become 89 = .ok (.aload_n 1, 1) := by decide +kernel
theorem dX12_become_90 : decode cX12_become 90 = .ok (.getfield 38, 3) := by decide +kernel
theorem dX12_become_93 : decode cX12_become 93 = .ok (.aload_n 0, 1) := by decide +kernel
theorem dX12_become_94 : decode cX12_become 94 = .ok (.getfield 38, 3) := by decide +kernel
theorem dX12_become_97 : decode cX12_become 97 = .ok (.invokevirtual 77, 3) := by decide +kernel
theorem dX12_become_100 : decode cX12_become 100 = .ok (.aload_n 0, 1) := by decide +kernel
theorem dX12_become_101 : decode cX12_become 101 = .ok (.aload_n 1, 1) := by decide +kernel
theorem dX12_become_102 : decode cX12_become 102 = .ok (.getfield 41, 3) := by decide +kernel
theorem dX12_become_105 : decode cX12_become 105 = .ok (.aload_n 0, 1) := by decide +kernel
theorem dX12_become_106 : decode cX12_become 106 = .ok (.getfield 41, 3) := by decide +kernel
theorem dX12_become_109 : decode cX12_become 109 = .ok (.invokevirtual 77, 3) := by decide +kernel
theorem dX12_become_112 : decode cX12_become 112 = .ok (.aload_n 0, 1) := by decide +kernel
theorem dX12_become_113 : decode cX12_become 113 = .ok (.aload_n 1, 1) := by decide +kernel
theorem dX12_become_114 : decode cX12_become 114 = .ok (.getfield 44, 3) := by decide +kernel
theorem dX12_become_117 : decode cX12_become 117 = .ok (.aload_n 0, 1) := by decide +kernel
theorem dX12_become_118 : decode cX12_become 118 = .ok (.getfield 44, 3) := by decide +kernel
theorem dX12_become_121 : decode cX12_become 121 = .ok (.invokevirtual 77, 3) := by decide +kernel
theorem dX12_become_124 : decode cX12_become 124 = .ok (.aload_n 0, 1) := by decide +kernel
theorem dX12_become_125 : decode cX12_become 125 = .ok (.aload_n 1, 1) := by decide +kernel
theorem dX12_become_126 : decode cX12_become 126 = .ok (.getfield 47, 3) := by decide +kernel
theorem dX12_become_129 : decode cX12_become 129 = .ok (.aload_n 0, 1) := by decide +kernel
theorem dX12_become_130 : decode cX12_become 130 = .ok (.getfield 47, 3) := by decide +kernel
theorem dX12_become_133 : decode cX12_become 133 = .ok (.invokevirtual 77, 3) := by decide +kernel
theorem dX12_become_136 : decode cX12_become 136 = .ok (.aload_n 0, 1) := by decide +kernel
theorem dX12_become_137 : decode cX12_become 137 = .ok (.aload_n 1, 1) := by decide +kernel
theorem dX12_become_138 : decode cX12_become 138 = .ok (.getfield 50, 3) := by decide +kernel
theorem dX12_become_141 : decode cX12_become 141 = .ok (.aload_n 0, 1) := by decide +kernel
theorem dX12_become_142 : decode cX12_become 142 = .ok (.getfield 50, 3) := by decide +kernel
theorem dX12_become_145 : decode cX12_become 145 = .ok (.invokevirtual 77, 3) := by decide +kernel
theorem dX12_become_148 : decode cX12_become 148 = .ok (.aload_n 0, 1) := by decide +kernel
theorem dX12_become_149 : decode cX12_become 149 = .ok (.aload_n 1, 1) := by decide +kernel
theorem dX12_become_150 : decode cX12_become 150 = .ok (.getfield 53, 3) := by decide +kernel
theorem dX12_become_153 : decode cX12_become 153 = .ok (.aload_n 0, 1) := by decide +kernel
theorem dX12_become_154 : decode cX12_become 154 = .ok (.getfield 53, 3) := by decide +kernel
theorem dX12_become_157 : decode cX12_become 157 = .ok (.invokevirtual 77, 3) := by decide +kernel
theorem dX12_become_160 : decode cX12_become 160 = .ok (.return_, 1) := by decide +kernel
set_option maxRecDepth 20000 in
theorem ggX12_become_X12_copy : GoodIn wsX12_become wsX12_copy := goodIn_r _ [19, 20, 21, 22, 23] (by decide +kernel) (by decide +kernel)
set_option maxRecDepth 20000 in
theorem gX12_become_X12_copy : GoodIn wsX12_become (wsV RX12 77 RX12 yX12_copy wsX12_copy) := goodIn_app (goodIn_of _ (by decide +kernel)) ggX12_become_X12_copy
theorem k_X12_become_f74 : Cond.fieldLink RX12 74 "TideLotsModel$State" "tide" "I" ∈ wsX12_become := by decide +kernel
theorem i_X12_become_X12 : ∀ w ∈ u_ws RX12 TX12 19, w ∈ wsX12_become := by decide +kernel
theorem k_X12_become_f15 : Cond.fieldLink RX12 15 "TideLotsModel$State" "l" "I" ∈ wsX12_become := by decide +kernel
theorem k_X12_become_f19 : Cond.fieldLink RX12 19 "TideLotsModel$State" "fish" "[I" ∈ wsX12_become := by decide +kernel
theorem k_X12_become_f23 : Cond.fieldLink RX12 23 "TideLotsModel$State" "boats" "[I" ∈ wsX12_become := by decide +kernel
theorem k_X12_become_f26 : Cond.fieldLink RX12 26 "TideLotsModel$State" "took" "[I" ∈ wsX12_become := by decide +kernel
theorem k_X12_become_f29 : Cond.fieldLink RX12 29 "TideLotsModel$State" "mesh" "[I" ∈ wsX12_become := by decide +kernel
theorem k_X12_become_f32 : Cond.fieldLink RX12 32 "TideLotsModel$State" "store" "[I" ∈ wsX12_become := by decide +kernel
theorem k_X12_become_f35 : Cond.fieldLink RX12 35 "TideLotsModel$State" "caught" "[I" ∈ wsX12_become := by decide +kernel
theorem k_X12_become_f38 : Cond.fieldLink RX12 38 "TideLotsModel$State" "where" "[I" ∈ wsX12_become := by decide +kernel
theorem k_X12_become_f41 : Cond.fieldLink RX12 41 "TideLotsModel$State" "tears" "[I" ∈ wsX12_become := by decide +kernel
theorem k_X12_become_f44 : Cond.fieldLink RX12 44 "TideLotsModel$State" "cheats" "[I" ∈ wsX12_become := by decide +kernel
theorem k_X12_become_f47 : Cond.fieldLink RX12 47 "TideLotsModel$State" "shown" "[I" ∈ wsX12_become := by decide +kernel
theorem k_X12_become_f50 : Cond.fieldLink RX12 50 "TideLotsModel$State" "hidden" "[I" ∈ wsX12_become := by decide +kernel
theorem k_X12_become_f53 : Cond.fieldLink RX12 53 "TideLotsModel$State" "hid" "[I" ∈ wsX12_become := by decide +kernel
abbrev rX12_become : Room := { frames := 2, cells := 0, slots := 0, locals := 82 }
noncomputable def b_X12_become_0 (M : gMem) (x0 : Nat) (x1 : Option Nat) : Option (Unit × gMem) :=
  dr x1 fun a1 => ck (mT M a1 = 11) <| ck (mT M x0 = 11) <| lw (wI M x0 0 ((mI M a1 0))) fun M4 => lw (wI M4 x0 1 ((mI M4 a1 1))) fun M7 => bd (f_X12_copy M7 x0 ((mR M7 a1 2)) ((mR M7 x0 2))) fun _ M10 => ck (mT M10 a1 = 11) <| ck (mT M10 x0 = 11) <| bd (f_X12_copy M10 x0 ((mR M10 a1 3)) ((mR M10 x0 3))) fun _ M13 => ck (mT M13 a1 = 11) <| ck (mT M13 x0 = 11) <| bd (f_X12_copy M13 x0 ((mR M13 a1 4)) ((mR M13 x0 4))) fun _ M16 => ck (mT M16 a1 = 11) <| ck (mT M16 x0 = 11) <| bd (f_X12_copy M16 x0 ((mR M16 a1 5)) ((mR M16 x0 5))) fun _ M19 => ck (mT M19 a1 = 11) <| ck (mT M19 x0 = 11) <| bd (f_X12_copy M19 x0 ((mR M19 a1 6)) ((mR M19 x0 6))) fun _ M22 => ck (mT M22 a1 = 11) <| ck (mT M22 x0 = 11) <| bd (f_X12_copy M22 x0 ((mR M22 a1 7)) ((mR M22 x0 7))) fun _ M25 => ck (mT M25 a1 = 11) <| ck (mT M25 x0 = 11) <| bd (f_X12_copy M25 x0 ((mR M25 a1 8)) ((mR M25 x0 8))) fun _ M28 => ck (mT M28 a1 = 11) <| ck (mT M28 x0 = 11) <| bd (f_X12_copy M28 x0 ((mR M28 a1 9)) ((mR M28 x0 9))) fun _ M31 => ck (mT M31 a1 = 11) <| ck (mT M31 x0 = 11) <| bd (f_X12_copy M31 x0 ((mR M31 a1 10)) ((mR M31 x0 10))) fun _ M34 => ck (mT M34 a1 = 11) <| ck (mT M34 x0 = 11) <| bd (f_X12_copy M34 x0 ((mR M34 a1 11)) ((mR M34 x0 11))) fun _ M37 => ck (mT M37 a1 = 11) <| ck (mT M37 x0 = 11) <| bd (f_X12_copy M37 x0 ((mR M37 a1 12)) ((mR M37 x0 12))) fun _ M40 => ck (mT M40 a1 = 11) <| ck (mT M40 x0 = 11) <| bd (f_X12_copy M40 x0 ((mR M40 a1 13)) ((mR M40 x0 13))) fun _ M43 => some ((), M43)
noncomputable def f_X12_become (M : gMem) (x0 : Nat) (x1 : Option Nat) : Option (Unit × gMem) :=
  b_X12_become_0 M x0 x1
set_option maxHeartbeats 4000000 in
set_option maxRecDepth 100000 in
theorem t_X12_become_0 (X : gX p s m args meth c D cy B (gSt Z B H0) RX12 cX12_become wsX12_become 2) (hr : meth.sig.returnType = none) {Q : State → Prop} : ∀ (M : gMem) (x0 : Nat) (x1 : Option Nat) (z : Unit × gMem), b_X12_become_0 M x0 x1 = some z → (fun (r : Unit × gMem) => Q = gMQ below D cy B H0 args s 0 0 none r.2) z → gGo p l e rX12_become s m args below meth c D cy B H0 2 0 0 Q 0 [(0, vR (some x0)), (1, vR x1)] [] M := by
  intro M x0 x1 z hf hK
  unfold b_X12_become_0 at hf
  refine g_aload_n X dX12_become_0 rfl rfl ?_
  refine g_aload_n X dX12_become_1 rfl rfl ?_
  obtain ⟨a1, ha1, hf⟩ := dr_e hf
  obtain ⟨hT2, hf⟩ := ck_e hf
  refine g_get (ci := 10) (v := vI (mI M a1 0)) 0 X cdX12 i_X12_become_X12 (by decide) k_X12_become_f74 rfl dX12_become_2 ha1 hT2 rfl ?_
  obtain ⟨hT3, hf⟩ := ck_e hf
  refine g_putI (ci := 10) 0 X cdX12 i_X12_become_X12 (by decide) k_X12_become_f74 rfl dX12_become_5 rfl hT3 (Or.inl rfl) rfl rfl rfl ?_
  obtain ⟨M4, hM4, hf⟩ := lw_e hf
  rw [← hM4]
  have hT5 : mT M4 a1 = 11 := by rw [hM4]; exact hT2
  have hT6 : mT M4 x0 = 11 := by rw [hM4]; exact hT3
  refine g_aload_n X dX12_become_8 rfl rfl ?_
  refine g_aload_n X dX12_become_9 rfl rfl ?_
  refine g_get (ci := 10) (v := vI (mI M4 a1 1)) 1 X cdX12 i_X12_become_X12 (by decide) k_X12_become_f15 rfl dX12_become_10 ha1 hT5 rfl ?_
  refine g_putI (ci := 10) 1 X cdX12 i_X12_become_X12 (by decide) k_X12_become_f15 rfl dX12_become_13 rfl hT6 (Or.inl rfl) rfl rfl rfl ?_
  obtain ⟨M7, hM7, hf⟩ := lw_e hf
  rw [← hM7]
  have hT8 : mT M7 a1 = 11 := by rw [hM7]; exact hT5
  have hT9 : mT M7 x0 = 11 := by rw [hM7]; exact hT6
  refine g_aload_n X dX12_become_16 rfl rfl ?_
  refine g_aload_n X dX12_become_17 rfl rfl ?_
  refine g_get (ci := 10) (v := vR (mR M7 a1 2)) 2 X cdX12 i_X12_become_X12 (by decide) k_X12_become_f19 rfl dX12_become_18 ha1 hT8 rfl ?_
  refine g_aload_n X dX12_become_21 rfl rfl ?_
  refine g_get (ci := 10) (v := vR (mR M7 x0 2)) 2 X cdX12 i_X12_become_X12 (by decide) k_X12_become_f19 rfl dX12_become_22 rfl hT9 rfl ?_
  obtain ⟨r10, M10, hq10, hf⟩ := bd_e hf
  refine g_callV (ci := 10) (b := x0) (As := [vR (mR M7 a1 2), vR (mR M7 x0 2)]) (st := []) (v := none) (M1 := M10) X (m_X12_copy l hq10) (cwV 2 X.2.2.1 gX12_become_X12_copy rfl rfl rfl (by decide +kernel) ⟨Nat.le_of_ble_eq_true rfl, Nat.le_of_ble_eq_true rfl⟩) rfl rfl rfl hT9 (by decide) rfl (Nat.le_of_ble_eq_true rfl) dX12_become_25 ⟨by decide, by decide⟩ ?_
  refine g_aload_n X dX12_become_28 rfl rfl ?_
  refine g_aload_n X dX12_become_29 rfl rfl ?_
  obtain ⟨hT11, hf⟩ := ck_e hf
  refine g_get (ci := 10) (v := vR (mR M10 a1 3)) 3 X cdX12 i_X12_become_X12 (by decide) k_X12_become_f23 rfl dX12_become_30 ha1 hT11 rfl ?_
  refine g_aload_n X dX12_become_33 rfl rfl ?_
  obtain ⟨hT12, hf⟩ := ck_e hf
  refine g_get (ci := 10) (v := vR (mR M10 x0 3)) 3 X cdX12 i_X12_become_X12 (by decide) k_X12_become_f23 rfl dX12_become_34 rfl hT12 rfl ?_
  obtain ⟨r13, M13, hq13, hf⟩ := bd_e hf
  refine g_callV (ci := 10) (b := x0) (As := [vR (mR M10 a1 3), vR (mR M10 x0 3)]) (st := []) (v := none) (M1 := M13) X (m_X12_copy l hq13) (cwV 2 X.2.2.1 gX12_become_X12_copy rfl rfl rfl (by decide +kernel) ⟨Nat.le_of_ble_eq_true rfl, Nat.le_of_ble_eq_true rfl⟩) rfl rfl rfl hT12 (by decide) rfl (Nat.le_of_ble_eq_true rfl) dX12_become_37 ⟨by decide, by decide⟩ ?_
  refine g_aload_n X dX12_become_40 rfl rfl ?_
  refine g_aload_n X dX12_become_41 rfl rfl ?_
  obtain ⟨hT14, hf⟩ := ck_e hf
  refine g_get (ci := 10) (v := vR (mR M13 a1 4)) 4 X cdX12 i_X12_become_X12 (by decide) k_X12_become_f26 rfl dX12_become_42 ha1 hT14 rfl ?_
  refine g_aload_n X dX12_become_45 rfl rfl ?_
  obtain ⟨hT15, hf⟩ := ck_e hf
  refine g_get (ci := 10) (v := vR (mR M13 x0 4)) 4 X cdX12 i_X12_become_X12 (by decide) k_X12_become_f26 rfl dX12_become_46 rfl hT15 rfl ?_
  obtain ⟨r16, M16, hq16, hf⟩ := bd_e hf
  refine g_callV (ci := 10) (b := x0) (As := [vR (mR M13 a1 4), vR (mR M13 x0 4)]) (st := []) (v := none) (M1 := M16) X (m_X12_copy l hq16) (cwV 2 X.2.2.1 gX12_become_X12_copy rfl rfl rfl (by decide +kernel) ⟨Nat.le_of_ble_eq_true rfl, Nat.le_of_ble_eq_true rfl⟩) rfl rfl rfl hT15 (by decide) rfl (Nat.le_of_ble_eq_true rfl) dX12_become_49 ⟨by decide, by decide⟩ ?_
  refine g_aload_n X dX12_become_52 rfl rfl ?_
  refine g_aload_n X dX12_become_53 rfl rfl ?_
  obtain ⟨hT17, hf⟩ := ck_e hf
  refine g_get (ci := 10) (v := vR (mR M16 a1 5)) 5 X cdX12 i_X12_become_X12 (by decide) k_X12_become_f29 rfl dX12_become_54 ha1 hT17 rfl ?_
  refine g_aload_n X dX12_become_57 rfl rfl ?_
  obtain ⟨hT18, hf⟩ := ck_e hf
  refine g_get (ci := 10) (v := vR (mR M16 x0 5)) 5 X cdX12 i_X12_become_X12 (by decide) k_X12_become_f29 rfl dX12_become_58 rfl hT18 rfl ?_
  obtain ⟨r19, M19, hq19, hf⟩ := bd_e hf
  refine g_callV (ci := 10) (b := x0) (As := [vR (mR M16 a1 5), vR (mR M16 x0 5)]) (st := []) (v := none) (M1 := M19) X (m_X12_copy l hq19) (cwV 2 X.2.2.1 gX12_become_X12_copy rfl rfl rfl (by decide +kernel) ⟨Nat.le_of_ble_eq_true rfl, Nat.le_of_ble_eq_true rfl⟩) rfl rfl rfl hT18 (by decide) rfl (Nat.le_of_ble_eq_true rfl) dX12_become_61 ⟨by decide, by decide⟩ ?_
  refine g_aload_n X dX12_become_64 rfl rfl ?_
  refine g_aload_n X dX12_become_65 rfl rfl ?_
  obtain ⟨hT20, hf⟩ := ck_e hf
  refine g_get (ci := 10) (v := vR (mR M19 a1 6)) 6 X cdX12 i_X12_become_X12 (by decide) k_X12_become_f32 rfl dX12_become_66 ha1 hT20 rfl ?_
  refine g_aload_n X dX12_become_69 rfl rfl ?_
  obtain ⟨hT21, hf⟩ := ck_e hf
  refine g_get (ci := 10) (v := vR (mR M19 x0 6)) 6 X cdX12 i_X12_become_X12 (by decide) k_X12_become_f32 rfl dX12_become_70 rfl hT21 rfl ?_
  obtain ⟨r22, M22, hq22, hf⟩ := bd_e hf
  refine g_callV (ci := 10) (b := x0) (As := [vR (mR M19 a1 6), vR (mR M19 x0 6)]) (st := []) (v := none) (M1 := M22) X (m_X12_copy l hq22) (cwV 2 X.2.2.1 gX12_become_X12_copy rfl rfl rfl (by decide +kernel) ⟨Nat.le_of_ble_eq_true rfl, Nat.le_of_ble_eq_true rfl⟩) rfl rfl rfl hT21 (by decide) rfl (Nat.le_of_ble_eq_true rfl) dX12_become_73 ⟨by decide, by decide⟩ ?_
  refine g_aload_n X dX12_become_76 rfl rfl ?_
  refine g_aload_n X dX12_become_77 rfl rfl ?_
  obtain ⟨hT23, hf⟩ := ck_e hf
  refine g_get (ci := 10) (v := vR (mR M22 a1 7)) 7 X cdX12 i_X12_become_X12 (by decide) k_X12_become_f35 rfl dX12_become_78 ha1 hT23 rfl ?_
  refine g_aload_n X dX12_become_81 rfl rfl ?_
  obtain ⟨hT24, hf⟩ := ck_e hf
  refine g_get (ci := 10) (v := vR (mR M22 x0 7)) 7 X cdX12 i_X12_become_X12 (by decide) k_X12_become_f35 rfl dX12_become_82 rfl hT24 rfl ?_
  obtain ⟨r25, M25, hq25, hf⟩ := bd_e hf
  refine g_callV (ci := 10) (b := x0) (As := [vR (mR M22 a1 7), vR (mR M22 x0 7)]) (st := []) (v := none) (M1 := M25) X (m_X12_copy l hq25) (cwV 2 X.2.2.1 gX12_become_X12_copy rfl rfl rfl (by decide +kernel) ⟨Nat.le_of_ble_eq_true rfl, Nat.le_of_ble_eq_true rfl⟩) rfl rfl rfl hT24 (by decide) rfl (Nat.le_of_ble_eq_true rfl) dX12_become_85 ⟨by decide, by decide⟩ ?_
  refine g_aload_n X dX12_become_88 rfl rfl ?_
  refine g_aload_n X dX12_become_89 rfl rfl ?_
  obtain ⟨hT26, hf⟩ := ck_e hf
  refine g_get (ci := 10) (v := vR (mR M25 a1 8)) 8 X cdX12 i_X12_become_X12 (by decide) k_X12_become_f38 rfl dX12_become_90 ha1 hT26 rfl ?_
  refine g_aload_n X dX12_become_93 rfl rfl ?_
  obtain ⟨hT27, hf⟩ := ck_e hf
  refine g_get (ci := 10) (v := vR (mR M25 x0 8)) 8 X cdX12 i_X12_become_X12 (by decide) k_X12_become_f38 rfl dX12_become_94 rfl hT27 rfl ?_
  obtain ⟨r28, M28, hq28, hf⟩ := bd_e hf
  refine g_callV (ci := 10) (b := x0) (As := [vR (mR M25 a1 8), vR (mR M25 x0 8)]) (st := []) (v := none) (M1 := M28) X (m_X12_copy l hq28) (cwV 2 X.2.2.1 gX12_become_X12_copy rfl rfl rfl (by decide +kernel) ⟨Nat.le_of_ble_eq_true rfl, Nat.le_of_ble_eq_true rfl⟩) rfl rfl rfl hT27 (by decide) rfl (Nat.le_of_ble_eq_true rfl) dX12_become_97 ⟨by decide, by decide⟩ ?_
  refine g_aload_n X dX12_become_100 rfl rfl ?_
  refine g_aload_n X dX12_become_101 rfl rfl ?_
  obtain ⟨hT29, hf⟩ := ck_e hf
  refine g_get (ci := 10) (v := vR (mR M28 a1 9)) 9 X cdX12 i_X12_become_X12 (by decide) k_X12_become_f41 rfl dX12_become_102 ha1 hT29 rfl ?_
  refine g_aload_n X dX12_become_105 rfl rfl ?_
  obtain ⟨hT30, hf⟩ := ck_e hf
  refine g_get (ci := 10) (v := vR (mR M28 x0 9)) 9 X cdX12 i_X12_become_X12 (by decide) k_X12_become_f41 rfl dX12_become_106 rfl hT30 rfl ?_
  obtain ⟨r31, M31, hq31, hf⟩ := bd_e hf
  refine g_callV (ci := 10) (b := x0) (As := [vR (mR M28 a1 9), vR (mR M28 x0 9)]) (st := []) (v := none) (M1 := M31) X (m_X12_copy l hq31) (cwV 2 X.2.2.1 gX12_become_X12_copy rfl rfl rfl (by decide +kernel) ⟨Nat.le_of_ble_eq_true rfl, Nat.le_of_ble_eq_true rfl⟩) rfl rfl rfl hT30 (by decide) rfl (Nat.le_of_ble_eq_true rfl) dX12_become_109 ⟨by decide, by decide⟩ ?_
  refine g_aload_n X dX12_become_112 rfl rfl ?_
  refine g_aload_n X dX12_become_113 rfl rfl ?_
  obtain ⟨hT32, hf⟩ := ck_e hf
  refine g_get (ci := 10) (v := vR (mR M31 a1 10)) 10 X cdX12 i_X12_become_X12 (by decide) k_X12_become_f44 rfl dX12_become_114 ha1 hT32 rfl ?_
  refine g_aload_n X dX12_become_117 rfl rfl ?_
  obtain ⟨hT33, hf⟩ := ck_e hf
  refine g_get (ci := 10) (v := vR (mR M31 x0 10)) 10 X cdX12 i_X12_become_X12 (by decide) k_X12_become_f44 rfl dX12_become_118 rfl hT33 rfl ?_
  obtain ⟨r34, M34, hq34, hf⟩ := bd_e hf
  refine g_callV (ci := 10) (b := x0) (As := [vR (mR M31 a1 10), vR (mR M31 x0 10)]) (st := []) (v := none) (M1 := M34) X (m_X12_copy l hq34) (cwV 2 X.2.2.1 gX12_become_X12_copy rfl rfl rfl (by decide +kernel) ⟨Nat.le_of_ble_eq_true rfl, Nat.le_of_ble_eq_true rfl⟩) rfl rfl rfl hT33 (by decide) rfl (Nat.le_of_ble_eq_true rfl) dX12_become_121 ⟨by decide, by decide⟩ ?_
  refine g_aload_n X dX12_become_124 rfl rfl ?_
  refine g_aload_n X dX12_become_125 rfl rfl ?_
  obtain ⟨hT35, hf⟩ := ck_e hf
  refine g_get (ci := 10) (v := vR (mR M34 a1 11)) 11 X cdX12 i_X12_become_X12 (by decide) k_X12_become_f47 rfl dX12_become_126 ha1 hT35 rfl ?_
  refine g_aload_n X dX12_become_129 rfl rfl ?_
  obtain ⟨hT36, hf⟩ := ck_e hf
  refine g_get (ci := 10) (v := vR (mR M34 x0 11)) 11 X cdX12 i_X12_become_X12 (by decide) k_X12_become_f47 rfl dX12_become_130 rfl hT36 rfl ?_
  obtain ⟨r37, M37, hq37, hf⟩ := bd_e hf
  refine g_callV (ci := 10) (b := x0) (As := [vR (mR M34 a1 11), vR (mR M34 x0 11)]) (st := []) (v := none) (M1 := M37) X (m_X12_copy l hq37) (cwV 2 X.2.2.1 gX12_become_X12_copy rfl rfl rfl (by decide +kernel) ⟨Nat.le_of_ble_eq_true rfl, Nat.le_of_ble_eq_true rfl⟩) rfl rfl rfl hT36 (by decide) rfl (Nat.le_of_ble_eq_true rfl) dX12_become_133 ⟨by decide, by decide⟩ ?_
  refine g_aload_n X dX12_become_136 rfl rfl ?_
  refine g_aload_n X dX12_become_137 rfl rfl ?_
  obtain ⟨hT38, hf⟩ := ck_e hf
  refine g_get (ci := 10) (v := vR (mR M37 a1 12)) 12 X cdX12 i_X12_become_X12 (by decide) k_X12_become_f50 rfl dX12_become_138 ha1 hT38 rfl ?_
  refine g_aload_n X dX12_become_141 rfl rfl ?_
  obtain ⟨hT39, hf⟩ := ck_e hf
  refine g_get (ci := 10) (v := vR (mR M37 x0 12)) 12 X cdX12 i_X12_become_X12 (by decide) k_X12_become_f50 rfl dX12_become_142 rfl hT39 rfl ?_
  obtain ⟨r40, M40, hq40, hf⟩ := bd_e hf
  refine g_callV (ci := 10) (b := x0) (As := [vR (mR M37 a1 12), vR (mR M37 x0 12)]) (st := []) (v := none) (M1 := M40) X (m_X12_copy l hq40) (cwV 2 X.2.2.1 gX12_become_X12_copy rfl rfl rfl (by decide +kernel) ⟨Nat.le_of_ble_eq_true rfl, Nat.le_of_ble_eq_true rfl⟩) rfl rfl rfl hT39 (by decide) rfl (Nat.le_of_ble_eq_true rfl) dX12_become_145 ⟨by decide, by decide⟩ ?_
  refine g_aload_n X dX12_become_148 rfl rfl ?_
  refine g_aload_n X dX12_become_149 rfl rfl ?_
  obtain ⟨hT41, hf⟩ := ck_e hf
  refine g_get (ci := 10) (v := vR (mR M40 a1 13)) 13 X cdX12 i_X12_become_X12 (by decide) k_X12_become_f53 rfl dX12_become_150 ha1 hT41 rfl ?_
  refine g_aload_n X dX12_become_153 rfl rfl ?_
  obtain ⟨hT42, hf⟩ := ck_e hf
  refine g_get (ci := 10) (v := vR (mR M40 x0 13)) 13 X cdX12 i_X12_become_X12 (by decide) k_X12_become_f53 rfl dX12_become_154 rfl hT42 rfl ?_
  obtain ⟨r43, M43, hq43, hf⟩ := bd_e hf
  refine g_callV (ci := 10) (b := x0) (As := [vR (mR M40 a1 13), vR (mR M40 x0 13)]) (st := []) (v := none) (M1 := M43) X (m_X12_copy l hq43) (cwV 2 X.2.2.1 gX12_become_X12_copy rfl rfl rfl (by decide +kernel) ⟨Nat.le_of_ble_eq_true rfl, Nat.le_of_ble_eq_true rfl⟩) rfl rfl rfl hT42 (by decide) rfl (Nat.le_of_ble_eq_true rfl) dX12_become_157 ⟨by decide, by decide⟩ ?_
  cases hf
  refine g_eqQ hK ?_
  exact g_vret X hr dX12_become_160
set_option maxHeartbeats 4000000 in
set_option maxRecDepth 100000 in
theorem m_X12_become (l : Launch) {D : va_G} {cy : Nat → ClassId} {B : Nat} {H0 : Heap} {Z : Nat → Nat} {M M1 : gMem} {x0 : Nat} {x1 : Option Nat} {r : Unit} (hf : f_X12_become M x0 x1 = some (r, M1)) : Met l yX12_become wsX12_become rX12_become (va_Pc (Value.ref x0 :: List.map gv [vR x1]) (gPre D cy B H0 (gSt Z B H0) M)) (gQ D cy B H0 none M1) 0 0 (gA B) := by
  refine Met.ofW (cc := cX12_become) (maxL := 2) (ret := none) (by decide) rfl ?_
  intro p e s m args below meth c s₁ Bd hml hv
  obtain ⟨rfl, hW, hKK, hFs⟩ := hv
  have X : gX p s m _ meth c D cy B (gSt Z B H0) RX12 cX12_become wsX12_become 2 := ⟨Bd.exec, Bd.bytes, atoms_spec (ws := wsX12_become) Bd.pre, findClass_of_methodNamed Bd.named, hml, hKK, by rw [hW.1]; exact hW.2.1, Bd.notSynchronized, hFs⟩
  have hr := Bd.returns
  rcases x1 with _ | x1
  · have hl := lv_entry ([.ref x0, .null]) (n := 2) (Nat.le_of_ble_eq_true rfl)
    show W p l e rX12_become s m _ below meth c s.heap [] 0 0 _ (entryFrame m ([.ref x0, .null] : List Value).toArray 2)
    rw [lg_entry_eq]
    generalize (lg_sl ([.ref x0, .null]) ++ List.replicate (2 - (lg_sl ([.ref x0, .null])).length) Slot.unset).toArray = ls at hl ⊢
    have hl : lv_has ls 2 (List.map gq [(0, vR (some x0)), (1, vR none)]) := hl
    exact t_X12_become_0 X hr _ _ _ _ hf rfl s.heap [] ls hW va_S.rf (lv_has_sub hl (lvsub_of _ _ [0, 1] rfl))
  · have hl := lv_entry ([.ref x0, .ref x1]) (n := 2) (Nat.le_of_ble_eq_true rfl)
    show W p l e rX12_become s m _ below meth c s.heap [] 0 0 _ (entryFrame m ([.ref x0, .ref x1] : List Value).toArray 2)
    rw [lg_entry_eq]
    generalize (lg_sl ([.ref x0, .ref x1]) ++ List.replicate (2 - (lg_sl ([.ref x0, .ref x1])).length) Slot.unset).toArray = ls at hl ⊢
    have hl : lv_has ls 2 (List.map gq [(0, vR (some x0)), (1, vR (some x1))]) := hl
    exact t_X12_become_0 X hr _ _ _ _ hf rfl s.heap [] ls hW va_S.rf (lv_has_sub hl (lvsub_of _ _ [0, 1] rfl))
/-! ## TideLotsModel$State.fishAt(I)I -/
theorem dX12_fishAt_0 : decode cX12_fishAt 0 = .ok (.iconst 0, 1) := by decide +kernel
theorem dX12_fishAt_1 : decode cX12_fishAt 1 = .ok (.istore_n 2, 1) := by decide +kernel
theorem dX12_fishAt_2 : decode cX12_fishAt 2 = .ok (.iconst 0, 1) := by decide +kernel
theorem dX12_fishAt_3 : decode cX12_fishAt 3 = .ok (.istore_n 3, 1) := by decide +kernel
theorem dX12_fishAt_4 : decode cX12_fishAt 4 = .ok (.iload_n 3, 1) := by decide +kernel
theorem dX12_fishAt_5 : decode cX12_fishAt 5 = .ok (.iconst 5, 1) := by decide +kernel
theorem dX12_fishAt_6 : decode cX12_fishAt 6 = .ok (.if_icmp .ge 22, 3) := by decide +kernel
theorem dX12_fishAt_9 : decode cX12_fishAt 9 = .ok (.iload_n 2, 1) := by decide +kernel
theorem dX12_fishAt_10 : decode cX12_fishAt 10 = .ok (.aload_n 0, 1) := by decide +kernel
theorem dX12_fishAt_11 : decode cX12_fishAt 11 = .ok (.getfield 19, 3) := by decide +kernel
theorem dX12_fishAt_14 : decode cX12_fishAt 14 = .ok (.iconst 5, 1) := by decide +kernel
theorem dX12_fishAt_15 : decode cX12_fishAt 15 = .ok (.iload_n 1, 1) := by decide +kernel
theorem dX12_fishAt_16 : decode cX12_fishAt 16 = .ok (.imul, 1) := by decide +kernel
theorem dX12_fishAt_17 : decode cX12_fishAt 17 = .ok (.iload_n 3, 1) := by decide +kernel
theorem dX12_fishAt_18 : decode cX12_fishAt 18 = .ok (.iadd, 1) := by decide +kernel
theorem dX12_fishAt_19 : decode cX12_fishAt 19 = .ok (.iaload, 1) := by decide +kernel
theorem dX12_fishAt_20 : decode cX12_fishAt 20 = .ok (.iadd, 1) := by decide +kernel
theorem dX12_fishAt_21 : decode cX12_fishAt 21 = .ok (.istore_n 2, 1) := by decide +kernel
theorem dX12_fishAt_22 : decode cX12_fishAt 22 = .ok (.iinc 3 1, 3) := by decide +kernel
theorem dX12_fishAt_25 : decode cX12_fishAt 25 = .ok (.goto (-21), 3) := by decide +kernel
theorem dX12_fishAt_28 : decode cX12_fishAt 28 = .ok (.iload_n 2, 1) := by decide +kernel
theorem dX12_fishAt_29 : decode cX12_fishAt 29 = .ok (.ireturn, 1) := by decide +kernel
theorem k_X12_fishAt_f19 : Cond.fieldLink RX12 19 "TideLotsModel$State" "fish" "[I" ∈ wsX12_fishAt := by decide +kernel
theorem i_X12_fishAt_X12 : ∀ w ∈ u_ws RX12 TX12 19, w ∈ wsX12_fishAt := by decide +kernel
abbrev rX12_fishAt : Room := { frames := 0, cells := 0, slots := 0, locals := 0 }
noncomputable def bb_X12_fishAt_4 (M : gMem) (x0 : Nat) (x1 : Int32) (x2 : Int32) (x3 : Int32) : Option ((gMem × Int32 × Int32) ⊕ (Int32 × gMem)) :=
  (if (5 : Int32) ≤ x3 then oI (some (x2, M)) else ck (mT M x0 = 11) <| dr ((mR M x0 2)) fun a3 => ck (mT M a3 = 20) <| ck (inb (((5 : Int32) * x1) + x3) (mL M a3)) <| some (.inl (M, (x2 + (mI M a3 ((((5 : Int32) * x1) + x3)).toNatClampNeg)), (x3 + (1 : Int32)))))
noncomputable def lp_X12_fishAt_4 (M : gMem) (x0 : Nat) (x1 : Int32) (x2 : Int32) (x3 : Int32) : Option (Int32 × gMem) :=
  lp (fun (q : gMem × Int32 × Int32) => bb_X12_fishAt_4 q.1 x0 x1 q.2.1 q.2.2) (M, x2, x3)
noncomputable def b_X12_fishAt_0 (M : gMem) (x0 : Nat) (x1 : Int32) : Option (Int32 × gMem) :=
  lp_X12_fishAt_4 M x0 x1 ((0 : Int32)) ((0 : Int32))
noncomputable def f_X12_fishAt (M : gMem) (x0 : Nat) (x1 : Int32) : Option (Int32 × gMem) :=
  b_X12_fishAt_0 M x0 x1
set_option maxHeartbeats 4000000 in
set_option maxRecDepth 100000 in
theorem tb_X12_fishAt_4 (X : gX p s m args meth c D cy B (gSt Z B H0) RX12 cX12_fishAt wsX12_fishAt 4) (hr : meth.sig.returnType = (some .int)) {Q : State → Prop} : ∀ (M : gMem) (x0 : Nat) (x1 : Int32) (x2 : Int32) (x3 : Int32) (z : (gMem × Int32 × Int32) ⊕ (Int32 × gMem)), bb_X12_fishAt_4 M x0 x1 x2 x3 = some z → (Sum.elim (fun (q : gMem × Int32 × Int32) => gGo p l e rX12_fishAt s m args below meth c D cy B H0 4 0 0 Q 4 [(0, vR (some x0)), (1, vI x1), (2, vI q.2.1), (3, vI q.2.2)] [] q.1) (fun (r : Int32 × gMem) => Q = gMQ below D cy B H0 args s 0 0 (some (vI r.1)) r.2)) z → gGo p l e rX12_fishAt s m args below meth c D cy B H0 4 0 0 Q 4 [(0, vR (some x0)), (1, vI x1), (2, vI x2), (3, vI x3)] [] M := by
  intro M x0 x1 x2 x3 z hf hK
  unfold bb_X12_fishAt_4 at hf
  refine g_iload_n X dX12_fishAt_4 rfl rfl ?_
  refine g_iconst (v := (5 : Int32)) X dX12_fishAt_5 (by decide) ?_
  refine g_icmp_ge (tgt := 28) X dX12_fishAt_6 (by decide) (fun hc => ?_) (fun hc => ?_)
  · have hf := ife_t hc hf
    refine g_iload_n X dX12_fishAt_28 rfl rfl ?_
    obtain ⟨w1, hw1, hz1⟩ := oI_e hf
    subst hz1
    have hf := hw1
    cases hf
    refine g_eqQ hK ?_
    exact g_iret X hr dX12_fishAt_29
  · have hf := ife_f hc hf
    refine g_iload_n X dX12_fishAt_9 rfl rfl ?_
    refine g_aload_n X dX12_fishAt_10 rfl rfl ?_
    obtain ⟨hT2, hf⟩ := ck_e hf
    refine g_get (ci := 10) (v := vR (mR M x0 2)) 2 X cdX12 i_X12_fishAt_X12 (by decide) k_X12_fishAt_f19 rfl dX12_fishAt_11 rfl hT2 rfl ?_
    refine g_iconst (v := (5 : Int32)) X dX12_fishAt_14 (by decide) ?_
    refine g_iload_n X dX12_fishAt_15 rfl rfl ?_
    refine g_imul X dX12_fishAt_16 ?_
    refine g_iload_n X dX12_fishAt_17 rfl rfl ?_
    refine g_iadd X dX12_fishAt_18 ?_
    obtain ⟨a3, ha3, hf⟩ := dr_e hf
    obtain ⟨hT4, hf⟩ := ck_e hf
    obtain ⟨hg5, hf⟩ := ck_e hf
    refine g_iald X dX12_fishAt_19 ha3 hT4 hg5 ?_
    refine g_iadd X dX12_fishAt_20 ?_
    refine g_istore_n (lv' := [(2, vI (x2 + (mI M a3 ((((5 : Int32) * x1) + x3)).toNatClampNeg))), (0, vR (some x0)), (1, vI x1), (3, vI x3)]) X dX12_fishAt_21 rfl (by decide) rfl ?_
    refine g_iinc (v := (1 : Int32)) (lv' := [(3, vI (x3 + (1 : Int32))), (2, vI (x2 + (mI M a3 ((((5 : Int32) * x1) + x3)).toNatClampNeg))), (0, vR (some x0)), (1, vI x1)]) X dX12_fishAt_22 rfl (by decide) (by decide) rfl ?_
    refine g_goto (tgt := 4) X dX12_fishAt_25 (by decide) ?_
    cases hf
    refine g_sub (lvsub_of _ _ [2, 3, 1, 0] rfl) ?_
    exact hK
set_option maxHeartbeats 4000000 in
set_option maxRecDepth 100000 in
theorem tl_X12_fishAt_4 (X : gX p s m args meth c D cy B (gSt Z B H0) RX12 cX12_fishAt wsX12_fishAt 4) (hr : meth.sig.returnType = (some .int)) {Q : State → Prop} : ∀ (M : gMem) (x0 : Nat) (x1 : Int32) (x2 : Int32) (x3 : Int32) (z : Int32 × gMem), lp_X12_fishAt_4 M x0 x1 x2 x3 = some z → (fun (r : Int32 × gMem) => Q = gMQ below D cy B H0 args s 0 0 (some (vI r.1)) r.2) z → gGo p l e rX12_fishAt s m args below meth c D cy B H0 4 0 0 Q 4 [(0, vR (some x0)), (1, vI x1), (2, vI x2), (3, vI x3)] [] M := by
  intro M x0 x1 x2 x3 z hf hK
  refine lp_ind (P := (fun (q : gMem × Int32 × Int32) (z : Int32 × gMem) => (fun (r : Int32 × gMem) => Q = gMQ below D cy B H0 args s 0 0 (some (vI r.1)) r.2) z → gGo p l e rX12_fishAt s m args below meth c D cy B H0 4 0 0 Q 4 [(0, vR (some x0)), (1, vI x1), (2, vI q.2.1), (3, vI q.2.2)] [] q.1)) (fun q z hq => ?_) _ _ hf hK
  intro hK
  obtain ⟨w, hw, hm⟩ := hq
  refine tb_X12_fishAt_4 X hr _ _ _ _ _ w hw ?_
  cases w with
  | inl a => exact hm hK
  | inr b => cases hm; exact hK
set_option maxHeartbeats 4000000 in
set_option maxRecDepth 100000 in
theorem t_X12_fishAt_0 (X : gX p s m args meth c D cy B (gSt Z B H0) RX12 cX12_fishAt wsX12_fishAt 4) (hr : meth.sig.returnType = (some .int)) {Q : State → Prop} : ∀ (M : gMem) (x0 : Nat) (x1 : Int32) (z : Int32 × gMem), b_X12_fishAt_0 M x0 x1 = some z → (fun (r : Int32 × gMem) => Q = gMQ below D cy B H0 args s 0 0 (some (vI r.1)) r.2) z → gGo p l e rX12_fishAt s m args below meth c D cy B H0 4 0 0 Q 0 [(0, vR (some x0)), (1, vI x1)] [] M := by
  intro M x0 x1 z hf hK
  unfold b_X12_fishAt_0 at hf
  refine g_iconst (v := (0 : Int32)) X dX12_fishAt_0 (by decide) ?_
  refine g_istore_n (lv' := [(2, vI (0 : Int32)), (0, vR (some x0)), (1, vI x1)]) X dX12_fishAt_1 rfl (by decide) rfl ?_
  refine g_iconst (v := (0 : Int32)) X dX12_fishAt_2 (by decide) ?_
  refine g_istore_n (lv' := [(3, vI (0 : Int32)), (2, vI (0 : Int32)), (0, vR (some x0)), (1, vI x1)]) X dX12_fishAt_3 rfl (by decide) rfl ?_
  refine g_sub (lvsub_of _ _ [2, 3, 1, 0] rfl) ?_
  exact tl_X12_fishAt_4 X hr _ _ _ _ _ _ hf hK
set_option maxHeartbeats 4000000 in
set_option maxRecDepth 100000 in
theorem m_X12_fishAt (l : Launch) {D : va_G} {cy : Nat → ClassId} {B : Nat} {H0 : Heap} {Z : Nat → Nat} {M M1 : gMem} {x0 : Nat} {x1 : Int32} {r : Int32} (hf : f_X12_fishAt M x0 x1 = some (r, M1)) : Met l yX12_fishAt wsX12_fishAt rX12_fishAt (va_Pc (Value.ref x0 :: List.map gv [vI x1]) (gPre D cy B H0 (gSt Z B H0) M)) (gQ D cy B H0 (some (vI r)) M1) 0 0 (gA B) := by
  refine Met.ofW (cc := cX12_fishAt) (maxL := 4) (ret := (some .int)) (by decide) rfl ?_
  intro p e s m args below meth c s₁ Bd hml hv
  obtain ⟨rfl, hW, hKK, hFs⟩ := hv
  have X : gX p s m _ meth c D cy B (gSt Z B H0) RX12 cX12_fishAt wsX12_fishAt 4 := ⟨Bd.exec, Bd.bytes, atoms_spec (ws := wsX12_fishAt) Bd.pre, findClass_of_methodNamed Bd.named, hml, hKK, by rw [hW.1]; exact hW.2.1, Bd.notSynchronized, hFs⟩
  have hr := Bd.returns
  have hl := lv_entry ([.ref x0, .int x1]) (n := 4) (Nat.le_of_ble_eq_true rfl)
  show W p l e rX12_fishAt s m _ below meth c s.heap [] 0 0 _ (entryFrame m ([.ref x0, .int x1] : List Value).toArray 4)
  rw [lg_entry_eq]
  generalize (lg_sl ([.ref x0, .int x1]) ++ List.replicate (4 - (lg_sl ([.ref x0, .int x1])).length) Slot.unset).toArray = ls at hl ⊢
  have hl : lv_has ls 4 (List.map gq [(0, vR (some x0)), (1, vI x1)]) := hl
  exact t_X12_fishAt_0 X hr _ _ _ _ hf rfl s.heap [] ls hW va_S.rf (lv_has_sub hl (lvsub_of _ _ [0, 1] rfl))
/-! ## TideLotsModel$State.sum([I)I -/
theorem dX12_sum_0 : decode cX12_sum 0 = .ok (.iconst 0, 1) := by decide +kernel
theorem dX12_sum_1 : decode cX12_sum 1 = .ok (.istore_n 2, 1) := by decide +kernel
theorem dX12_sum_2 : decode cX12_sum 2 = .ok (.aload_n 1, 1) := by decide +kernel
theorem dX12_sum_3 : decode cX12_sum 3 = .ok (.astore_n 3, 1) := by decide +kernel
theorem dX12_sum_4 : decode cX12_sum 4 = .ok (.aload_n 3, 1) := by decide +kernel
theorem dX12_sum_5 : decode cX12_sum 5 = .ok (.arraylength, 1) := by decide +kernel
theorem dX12_sum_6 : decode cX12_sum 6 = .ok (.istore 4, 2) := by decide +kernel
theorem dX12_sum_8 : decode cX12_sum 8 = .ok (.iconst 0, 1) := by decide +kernel
theorem dX12_sum_9 : decode cX12_sum 9 = .ok (.istore 5, 2) := by decide +kernel
theorem dX12_sum_11 : decode cX12_sum 11 = .ok (.iload 5, 2) := by decide +kernel
theorem dX12_sum_13 : decode cX12_sum 13 = .ok (.iload 4, 2) := by decide +kernel
theorem dX12_sum_15 : decode cX12_sum 15 = .ok (.if_icmp .ge 20, 3) := by decide +kernel
theorem dX12_sum_18 : decode cX12_sum 18 = .ok (.aload_n 3, 1) := by decide +kernel
theorem dX12_sum_19 : decode cX12_sum 19 = .ok (.iload 5, 2) := by decide +kernel
theorem dX12_sum_21 : decode cX12_sum 21 = .ok (.iaload, 1) := by decide +kernel
theorem dX12_sum_22 : decode cX12_sum 22 = .ok (.istore 6, 2) := by decide +kernel
theorem dX12_sum_24 : decode cX12_sum 24 = .ok (.iload_n 2, 1) := by decide +kernel
theorem dX12_sum_25 : decode cX12_sum 25 = .ok (.iload 6, 2) := by decide +kernel
theorem dX12_sum_27 : decode cX12_sum 27 = .ok (.iadd, 1) := by decide +kernel
theorem dX12_sum_28 : decode cX12_sum 28 = .ok (.istore_n 2, 1) := by decide +kernel
theorem dX12_sum_29 : decode cX12_sum 29 = .ok (.iinc 5 1, 3) := by decide +kernel
theorem dX12_sum_32 : decode cX12_sum 32 = .ok (.goto (-21), 3) := by decide +kernel
theorem dX12_sum_35 : decode cX12_sum 35 = .ok (.iload_n 2, 1) := by decide +kernel
theorem dX12_sum_36 : decode cX12_sum 36 = .ok (.ireturn, 1) := by decide +kernel
abbrev rX12_sum : Room := { frames := 0, cells := 0, slots := 0, locals := 0 }
noncomputable def bb_X12_sum_11 (M : gMem) (x2 : Int32) (x3 : Option Nat) (x4 : Int32) (x5 : Int32) : Option ((gMem × Int32 × Int32) ⊕ (Int32 × gMem)) :=
  (if x4 ≤ x5 then oI (some (x2, M)) else dr x3 fun a2 => ck (mT M a2 = 20) <| ck (inb x5 (mL M a2)) <| some (.inl (M, (x2 + (mI M a2 x5.toNatClampNeg)), (x5 + (1 : Int32)))))
noncomputable def lp_X12_sum_11 (M : gMem) (x2 : Int32) (x3 : Option Nat) (x4 : Int32) (x5 : Int32) : Option (Int32 × gMem) :=
  lp (fun (q : gMem × Int32 × Int32) => bb_X12_sum_11 q.1 q.2.1 x3 x4 q.2.2) (M, x2, x5)
noncomputable def b_X12_sum_0 (M : gMem) (x1 : Option Nat) : Option (Int32 × gMem) :=
  dr x1 fun a5 => ck (mT M a5 = 20) <| lp_X12_sum_11 M ((0 : Int32)) x1 ((Int32.ofNat (mL M a5))) ((0 : Int32))
noncomputable def f_X12_sum (M : gMem) (x0 : Nat) (x1 : Option Nat) : Option (Int32 × gMem) :=
  b_X12_sum_0 M x1
set_option maxHeartbeats 4000000 in
set_option maxRecDepth 100000 in
theorem tb_X12_sum_11 (X : gX p s m args meth c D cy B (gSt Z B H0) RX12 cX12_sum wsX12_sum 7) (hr : meth.sig.returnType = (some .int)) {Q : State → Prop} : ∀ (M : gMem) (x2 : Int32) (x3 : Option Nat) (x4 : Int32) (x5 : Int32) (z : (gMem × Int32 × Int32) ⊕ (Int32 × gMem)), bb_X12_sum_11 M x2 x3 x4 x5 = some z → (Sum.elim (fun (q : gMem × Int32 × Int32) => gGo p l e rX12_sum s m args below meth c D cy B H0 7 0 0 Q 11 [(2, vI q.2.1), (3, vR x3), (4, vI x4), (5, vI q.2.2)] [] q.1) (fun (r : Int32 × gMem) => Q = gMQ below D cy B H0 args s 0 0 (some (vI r.1)) r.2)) z → gGo p l e rX12_sum s m args below meth c D cy B H0 7 0 0 Q 11 [(2, vI x2), (3, vR x3), (4, vI x4), (5, vI x5)] [] M := by
  intro M x2 x3 x4 x5 z hf hK
  unfold bb_X12_sum_11 at hf
  refine g_iload X dX12_sum_11 rfl ?_
  refine g_iload X dX12_sum_13 rfl ?_
  refine g_icmp_ge (tgt := 35) X dX12_sum_15 (by decide) (fun hc => ?_) (fun hc => ?_)
  · have hf := ife_t hc hf
    refine g_iload_n X dX12_sum_35 rfl rfl ?_
    obtain ⟨w1, hw1, hz1⟩ := oI_e hf
    subst hz1
    have hf := hw1
    cases hf
    refine g_eqQ hK ?_
    exact g_iret X hr dX12_sum_36
  · have hf := ife_f hc hf
    refine g_aload_n X dX12_sum_18 rfl rfl ?_
    refine g_iload X dX12_sum_19 rfl ?_
    obtain ⟨a2, ha2, hf⟩ := dr_e hf
    obtain ⟨hT3, hf⟩ := ck_e hf
    obtain ⟨hg4, hf⟩ := ck_e hf
    refine g_iald X dX12_sum_21 ha2 hT3 hg4 ?_
    refine g_istore (lv' := [(6, vI (mI M a2 x5.toNatClampNeg)), (2, vI x2), (3, vR x3), (4, vI x4), (5, vI x5)]) X dX12_sum_22 (by decide) rfl ?_
    refine g_iload_n X dX12_sum_24 rfl rfl ?_
    refine g_iload X dX12_sum_25 rfl ?_
    refine g_iadd X dX12_sum_27 ?_
    refine g_istore_n (lv' := [(2, vI (x2 + (mI M a2 x5.toNatClampNeg))), (6, vI (mI M a2 x5.toNatClampNeg)), (3, vR x3), (4, vI x4), (5, vI x5)]) X dX12_sum_28 rfl (by decide) rfl ?_
    refine g_iinc (v := (1 : Int32)) (lv' := [(5, vI (x5 + (1 : Int32))), (2, vI (x2 + (mI M a2 x5.toNatClampNeg))), (6, vI (mI M a2 x5.toNatClampNeg)), (3, vR x3), (4, vI x4)]) X dX12_sum_29 rfl (by decide) (by decide) rfl ?_
    refine g_goto (tgt := 11) X dX12_sum_32 (by decide) ?_
    cases hf
    refine g_sub (lvsub_of _ _ [1, 3, 4, 0] rfl) ?_
    exact hK
set_option maxHeartbeats 4000000 in
set_option maxRecDepth 100000 in
theorem tl_X12_sum_11 (X : gX p s m args meth c D cy B (gSt Z B H0) RX12 cX12_sum wsX12_sum 7) (hr : meth.sig.returnType = (some .int)) {Q : State → Prop} : ∀ (M : gMem) (x2 : Int32) (x3 : Option Nat) (x4 : Int32) (x5 : Int32) (z : Int32 × gMem), lp_X12_sum_11 M x2 x3 x4 x5 = some z → (fun (r : Int32 × gMem) => Q = gMQ below D cy B H0 args s 0 0 (some (vI r.1)) r.2) z → gGo p l e rX12_sum s m args below meth c D cy B H0 7 0 0 Q 11 [(2, vI x2), (3, vR x3), (4, vI x4), (5, vI x5)] [] M := by
  intro M x2 x3 x4 x5 z hf hK
  refine lp_ind (P := (fun (q : gMem × Int32 × Int32) (z : Int32 × gMem) => (fun (r : Int32 × gMem) => Q = gMQ below D cy B H0 args s 0 0 (some (vI r.1)) r.2) z → gGo p l e rX12_sum s m args below meth c D cy B H0 7 0 0 Q 11 [(2, vI q.2.1), (3, vR x3), (4, vI x4), (5, vI q.2.2)] [] q.1)) (fun q z hq => ?_) _ _ hf hK
  intro hK
  obtain ⟨w, hw, hm⟩ := hq
  refine tb_X12_sum_11 X hr _ _ _ _ _ w hw ?_
  cases w with
  | inl a => exact hm hK
  | inr b => cases hm; exact hK
set_option maxHeartbeats 4000000 in
set_option maxRecDepth 100000 in
theorem t_X12_sum_0 (X : gX p s m args meth c D cy B (gSt Z B H0) RX12 cX12_sum wsX12_sum 7) (hr : meth.sig.returnType = (some .int)) {Q : State → Prop} : ∀ (M : gMem) (x1 : Option Nat) (z : Int32 × gMem), b_X12_sum_0 M x1 = some z → (fun (r : Int32 × gMem) => Q = gMQ below D cy B H0 args s 0 0 (some (vI r.1)) r.2) z → gGo p l e rX12_sum s m args below meth c D cy B H0 7 0 0 Q 0 [(1, vR x1)] [] M := by
  intro M x1 z hf hK
  unfold b_X12_sum_0 at hf
  refine g_iconst (v := (0 : Int32)) X dX12_sum_0 (by decide) ?_
  refine g_istore_n (lv' := [(2, vI (0 : Int32)), (1, vR x1)]) X dX12_sum_1 rfl (by decide) rfl ?_
  refine g_aload_n X dX12_sum_2 rfl rfl ?_
  refine g_astore_n (lv' := [(3, vR x1), (2, vI (0 : Int32)), (1, vR x1)]) X dX12_sum_3 rfl (by decide) rfl ?_
  refine g_aload_n X dX12_sum_4 rfl rfl ?_
  obtain ⟨a5, ha5, hf⟩ := dr_e hf
  obtain ⟨hT6, hf⟩ := ck_e hf
  refine g_alen (t0 := 0) X dX12_sum_5 ha5 hT6 (by decide) rfl ?_
  refine g_istore (lv' := [(4, vI (Int32.ofNat (mL M a5))), (3, vR x1), (2, vI (0 : Int32)), (1, vR x1)]) X dX12_sum_6 (by decide) rfl ?_
  refine g_iconst (v := (0 : Int32)) X dX12_sum_8 (by decide) ?_
  refine g_istore (lv' := [(5, vI (0 : Int32)), (4, vI (Int32.ofNat (mL M a5))), (3, vR x1), (2, vI (0 : Int32)), (1, vR x1)]) X dX12_sum_9 (by decide) rfl ?_
  refine g_sub (lvsub_of _ _ [3, 2, 1, 0] rfl) ?_
  exact tl_X12_sum_11 X hr _ _ _ _ _ _ hf hK
set_option maxHeartbeats 4000000 in
set_option maxRecDepth 100000 in
theorem m_X12_sum (l : Launch) {D : va_G} {cy : Nat → ClassId} {B : Nat} {H0 : Heap} {Z : Nat → Nat} {M M1 : gMem} {x0 : Nat} {x1 : Option Nat} {r : Int32} (hf : f_X12_sum M x0 x1 = some (r, M1)) : Met l yX12_sum wsX12_sum rX12_sum (va_Pc (Value.ref x0 :: List.map gv [vR x1]) (gPre D cy B H0 (gSt Z B H0) M)) (gQ D cy B H0 (some (vI r)) M1) 0 0 (gA B) := by
  refine Met.ofW (cc := cX12_sum) (maxL := 7) (ret := (some .int)) (by decide) rfl ?_
  intro p e s m args below meth c s₁ Bd hml hv
  obtain ⟨rfl, hW, hKK, hFs⟩ := hv
  have X : gX p s m _ meth c D cy B (gSt Z B H0) RX12 cX12_sum wsX12_sum 7 := ⟨Bd.exec, Bd.bytes, atoms_spec (ws := wsX12_sum) Bd.pre, findClass_of_methodNamed Bd.named, hml, hKK, by rw [hW.1]; exact hW.2.1, Bd.notSynchronized, hFs⟩
  have hr := Bd.returns
  rcases x1 with _ | x1
  · have hl := lv_entry ([.ref x0, .null]) (n := 7) (Nat.le_of_ble_eq_true rfl)
    show W p l e rX12_sum s m _ below meth c s.heap [] 0 0 _ (entryFrame m ([.ref x0, .null] : List Value).toArray 7)
    rw [lg_entry_eq]
    generalize (lg_sl ([.ref x0, .null]) ++ List.replicate (7 - (lg_sl ([.ref x0, .null])).length) Slot.unset).toArray = ls at hl ⊢
    have hl : lv_has ls 7 (List.map gq [(0, vR (some x0)), (1, vR none)]) := hl
    exact t_X12_sum_0 X hr _ _ _ hf rfl s.heap [] ls hW va_S.rf (lv_has_sub hl (lvsub_of _ _ [1] rfl))
  · have hl := lv_entry ([.ref x0, .ref x1]) (n := 7) (Nat.le_of_ble_eq_true rfl)
    show W p l e rX12_sum s m _ below meth c s.heap [] 0 0 _ (entryFrame m ([.ref x0, .ref x1] : List Value).toArray 7)
    rw [lg_entry_eq]
    generalize (lg_sl ([.ref x0, .ref x1]) ++ List.replicate (7 - (lg_sl ([.ref x0, .ref x1])).length) Slot.unset).toArray = ls at hl ⊢
    have hl : lv_has ls 7 (List.map gq [(0, vR (some x0)), (1, vR (some x1))]) := hl
    exact t_X12_sum_0 X hr _ _ _ hf rfl s.heap [] ls hW va_S.rf (lv_has_sub hl (lvsub_of _ _ [1] rfl))
/-! ## TideLotsModel$State.gap()I -/
theorem dX12_gap_0 : decode cX12_gap 0 = .ok (.ldc 92, 2) := by decide +kernel
theorem dX12_gap_2 : decode cX12_gap 2 = .ok (.istore_n 1, 1) := by decide +kernel
theorem dX12_gap_3 : decode cX12_gap 3 = .ok (.iconst 0, 1) := by decide +kernel
theorem dX12_gap_4 : decode cX12_gap 4 = .ok (.istore_n 2, 1) := by decide +kernel
theorem dX12_gap_5 : decode cX12_gap 5 = .ok (.iconst 0, 1) := by decide +kernel
theorem dX12_gap_6 : decode cX12_gap 6 = .ok (.istore_n 3, 1) := by decide +kernel
theorem dX12_gap_7 : decode cX12_gap 7 = .ok (.iload_n 3, 1) := by decide +kernel
theorem dX12_gap_8 : decode cX12_gap 8 = .ok (.aload_n 0, 1) := by decide +kernel
theorem dX12_gap_9 : decode cX12_gap 9 = .ok (.getfield 3, 3) := by decide +kernel
theorem dX12_gap_12 : decode cX12_gap 12 = .ok (.getfield 81, 3) := by decide +kernel
theorem dX12_gap_15 : decode cX12_gap 15 = .ok (.getfield 93, 3) := by decide +kernel
theorem dX12_gap_18 : decode cX12_gap 18 = .ok (.if_icmp .ge 31, 3) := by decide +kernel
theorem dX12_gap_21 : decode cX12_gap 21 = .ok (.iload_n 1, 1) := by decide +kernel
theorem dX12_gap_22 : decode cX12_gap 22 = .ok (.aload_n 0, 1) := by decide +kernel
theorem dX12_gap_23 : decode cX12_gap 23 = .ok (.getfield 32, 3) := by decide +kernel
theorem dX12_gap_26 : decode cX12_gap 26 = .ok (.iload_n 3, 1) := by decide +kernel
theorem dX12_gap_27 : decode cX12_gap 27 = .ok (.iaload, 1) := by decide +kernel
theorem dX12_gap_28 : decode cX12_gap 28 = .ok (.invokestatic 96, 3) := by decide +kernel
theorem dX12_gap_31 : decode cX12_gap 31 = .ok (.istore_n 1, 1) := by decide +kernel
theorem dX12_gap_32 : decode cX12_gap 32 = .ok (.iload_n 2, 1) := by decide +kernel
theorem dX12_gap_33 : decode cX12_gap 33 = .ok (.aload_n 0, 1) := by decide +kernel
theorem dX12_gap_34 : decode cX12_gap 34 = .ok (.getfield 32, 3) := by decide +kernel
theorem dX12_gap_37 : decode cX12_gap 37 = .ok (.iload_n 3, 1) := by decide +kernel
theorem dX12_gap_38 : decode cX12_gap 38 = .ok (.iaload, 1) := by decide +kernel
theorem dX12_gap_39 : decode cX12_gap 39 = .ok (.invokestatic 102, 3) := by decide +kernel
theorem dX12_gap_42 : decode cX12_gap 42 = .ok (.istore_n 2, 1) := by decide +kernel
theorem dX12_gap_43 : decode cX12_gap 43 = .ok (.iinc 3 1, 3) := by decide +kernel
theorem dX12_gap_46 : decode cX12_gap 46 = .ok (.goto (-39), 3) := by decide +kernel
theorem dX12_gap_49 : decode cX12_gap 49 = .ok (.aload_n 0, 1) := by decide +kernel
theorem dX12_gap_50 : decode cX12_gap 50 = .ok (.getfield 3, 3) := by decide +kernel
theorem dX12_gap_53 : decode cX12_gap 53 = .ok (.getfield 81, 3) := by decide +kernel
theorem dX12_gap_56 : decode cX12_gap 56 = .ok (.getfield 93, 3) := by decide +kernel
theorem dX12_gap_59 : decode cX12_gap 59 = .ok (.ifCond .ne 7, 3) := by decide +kernel
theorem dX12_gap_62 : decode cX12_gap 62 = .ok (.iconst 0, 1) := by decide +kernel
theorem dX12_gap_63 : decode cX12_gap 63 = .ok (.goto 6, 3) := by decide +kernel
theorem dX12_gap_66 : decode cX12_gap 66 = .ok (.iload_n 2, 1) := by decide +kernel
theorem dX12_gap_67 : decode cX12_gap 67 = .ok (.iload_n 1, 1) := by decide +kernel
theorem dX12_gap_68 : decode cX12_gap 68 = .ok (.isub, 1) := by decide +kernel
theorem dX12_gap_69 : decode cX12_gap 69 = .ok (.ireturn, 1) := by decide +kernel
theorem k_X12_gap_f3 : Cond.fieldLink RX12 3 "TideLotsModel$State" "this$0" "LTideLotsModel;" ∈ wsX12_gap := by decide +kernel
theorem i_X12_gap_X12 : ∀ w ∈ u_ws RX12 TX12 19, w ∈ wsX12_gap := by decide +kernel
theorem kn_X12_81 : Cond.fieldLinkNest "TideLotsModel$State" (81 : Nat) "TideLotsModel" "told" "LTideLotsModel$Told;" "TideLotsModel" ∈ gNs := by decide +kernel
theorem i_X12_gap_X14 : ∀ w ∈ u_ws RX14 TX14 15, w ∈ wsX12_gap := by decide +kernel
theorem kn_X12_93 : Cond.fieldLinkNest "TideLotsModel$State" (93 : Nat) "TideLotsModel$Told" "fishers" "I" "TideLotsModel" ∈ gNs := by decide +kernel
theorem i_X12_gap_X13 : ∀ w ∈ u_ws RX13 TX13 25, w ∈ wsX12_gap := by decide +kernel
theorem k_X12_gap_f32 : Cond.fieldLink RX12 32 "TideLotsModel$State" "store" "[I" ∈ wsX12_gap := by decide +kernel
theorem k_X12_gap_m96 : Cond.methodLink RX12 96 Lib.Math.min.name ∈ wsX12_gap := by decide +kernel
theorem k_X12_gap_mmins : Cond.static Lib.Math.min.name ∈ wsX12_gap := by decide +kernel
theorem k_X12_gap_mi : Cond.initialized "java/lang/Math" ∈ wsX12_gap := by decide +kernel
theorem k_X12_gap_mminc : Cond.code Lib.Math.min.name Lib.Math.min.code 2 (some .int) ∈ wsX12_gap := by decide +kernel
theorem k_X12_gap_m102 : Cond.methodLink RX12 102 Lib.Math.max.name ∈ wsX12_gap := by decide +kernel
theorem k_X12_gap_mmaxs : Cond.static Lib.Math.max.name ∈ wsX12_gap := by decide +kernel
theorem k_X12_gap_mmaxc : Cond.code Lib.Math.max.name Lib.Math.max.code 2 (some .int) ∈ wsX12_gap := by decide +kernel
theorem k_X12_gap_c92 : Jvm.Cond.constant RX12 92 (2147483647) ∈ wsX12_gap := by decide +kernel
abbrev rX12_gap : Room := { frames := 1, cells := 0, slots := 0, locals := 13 }
noncomputable def b_X12_gap_69 (M : gMem) (s0 : Int32) : Option (Int32 × gMem) :=
  some (s0, M)
noncomputable def bb_X12_gap_7 (M : gMem) (x0 : Nat) (x1 : Int32) (x2 : Int32) (x3 : Int32) : Option ((gMem × Int32 × Int32 × Int32) ⊕ (Int32 × gMem)) :=
  ck (mT M x0 = 11) <| dr ((mR M x0 18)) fun a2 => ck (mT M a2 = 13) <| dr ((mR M a2 11)) fun a4 => ck (mT M a4 = 12) <| (if (mI M a4 4) ≤ x3 then (if (mI M a4 4) = 0 then oI (b_X12_gap_69 M ((0 : Int32))) else oI (b_X12_gap_69 M ((x2 - x1)))) else dr ((mR M x0 6)) fun a8 => ck (mT M a8 = 20) <| ck (inb x3 (mL M a8)) <| ck (inb x3 (mL M a8)) <| some (.inl (M, (imin x1 ((mI M a8 x3.toNatClampNeg))), (imax x2 ((mI M a8 x3.toNatClampNeg))), (x3 + (1 : Int32)))))
noncomputable def lp_X12_gap_7 (M : gMem) (x0 : Nat) (x1 : Int32) (x2 : Int32) (x3 : Int32) : Option (Int32 × gMem) :=
  lp (fun (q : gMem × Int32 × Int32 × Int32) => bb_X12_gap_7 q.1 x0 q.2.1 q.2.2.1 q.2.2.2) (M, x1, x2, x3)
noncomputable def b_X12_gap_0 (M : gMem) (x0 : Nat) : Option (Int32 × gMem) :=
  lp_X12_gap_7 M x0 ((2147483647 : Int32)) ((0 : Int32)) ((0 : Int32))
noncomputable def f_X12_gap (M : gMem) (x0 : Nat) : Option (Int32 × gMem) :=
  b_X12_gap_0 M x0
set_option maxHeartbeats 4000000 in
set_option maxRecDepth 100000 in
theorem t_X12_gap_69 (X : gX p s m args meth c D cy B (gSt Z B H0) RX12 cX12_gap wsX12_gap 4) (hr : meth.sig.returnType = (some .int)) {Q : State → Prop} : ∀ (M : gMem) (s0 : Int32) (z : Int32 × gMem), b_X12_gap_69 M s0 = some z → (fun (r : Int32 × gMem) => Q = gMQ below D cy B H0 args s 0 0 (some (vI r.1)) r.2) z → gGo p l e rX12_gap s m args below meth c D cy B H0 4 0 0 Q 69 [] [vI s0] M := by
  intro M s0 z hf hK
  unfold b_X12_gap_69 at hf
  cases hf
  refine g_eqQ hK ?_
  exact g_iret X hr dX12_gap_69
set_option maxHeartbeats 4000000 in
set_option maxRecDepth 100000 in
theorem tb_X12_gap_7 (X : gX p s m args meth c D cy B (gSt Z B H0) RX12 cX12_gap wsX12_gap 4) (hr : meth.sig.returnType = (some .int)) {Q : State → Prop} : ∀ (M : gMem) (x0 : Nat) (x1 : Int32) (x2 : Int32) (x3 : Int32) (z : (gMem × Int32 × Int32 × Int32) ⊕ (Int32 × gMem)), bb_X12_gap_7 M x0 x1 x2 x3 = some z → (Sum.elim (fun (q : gMem × Int32 × Int32 × Int32) => gGo p l e rX12_gap s m args below meth c D cy B H0 4 0 0 Q 7 [(0, vR (some x0)), (1, vI q.2.1), (2, vI q.2.2.1), (3, vI q.2.2.2)] [] q.1) (fun (r : Int32 × gMem) => Q = gMQ below D cy B H0 args s 0 0 (some (vI r.1)) r.2)) z → gGo p l e rX12_gap s m args below meth c D cy B H0 4 0 0 Q 7 [(0, vR (some x0)), (1, vI x1), (2, vI x2), (3, vI x3)] [] M := by
  intro M x0 x1 x2 x3 z hf hK
  unfold bb_X12_gap_7 at hf
  refine g_iload_n X dX12_gap_7 rfl rfl ?_
  refine g_aload_n X dX12_gap_8 rfl rfl ?_
  obtain ⟨hT1, hf⟩ := ck_e hf
  refine g_get (ci := 10) (v := vR (mR M x0 18)) 18 X cdX12 i_X12_gap_X12 (by decide) k_X12_gap_f3 rfl dX12_gap_9 rfl hT1 rfl ?_
  obtain ⟨a2, ha2, hf⟩ := dr_e hf
  obtain ⟨hT3, hf⟩ := ck_e hf
  refine g_getN (ci := 12) (w := vR (mR M a2 11)) 11 X cdX14 i_X12_gap_X14 (by decide) (gNw X _ kn_X12_81) rfl dX12_gap_12 ha2 hT3 rfl ?_
  obtain ⟨a4, ha4, hf⟩ := dr_e hf
  obtain ⟨hT5, hf⟩ := ck_e hf
  refine g_getN (ci := 11) (w := vI (mI M a4 4)) 4 X cdX13 i_X12_gap_X13 (by decide) (gNw X _ kn_X12_93) rfl dX12_gap_15 ha4 hT5 rfl ?_
  refine g_icmp_ge (tgt := 49) X dX12_gap_18 (by decide) (fun hc => ?_) (fun hc => ?_)
  · have hf := ife_t hc hf
    refine g_aload_n X dX12_gap_49 rfl rfl ?_
    refine g_get (ci := 10) (v := vR (mR M x0 18)) 18 X cdX12 i_X12_gap_X12 (by decide) k_X12_gap_f3 rfl dX12_gap_50 rfl hT1 rfl ?_
    refine g_getN (ci := 12) (w := vR (mR M a2 11)) 11 X cdX14 i_X12_gap_X14 (by decide) (gNw X _ kn_X12_81) rfl dX12_gap_53 ha2 hT3 rfl ?_
    refine g_getN (ci := 11) (w := vI (mI M a4 4)) 4 X cdX13 i_X12_gap_X13 (by decide) (gNw X _ kn_X12_93) rfl dX12_gap_56 ha4 hT5 rfl ?_
    refine g_if_ne (tgt := 66) X dX12_gap_59 (by decide) (fun hc => ?_) (fun hc => ?_)
    · have hf := ife_f hc hf
      refine g_iload_n X dX12_gap_66 rfl rfl ?_
      refine g_iload_n X dX12_gap_67 rfl rfl ?_
      refine g_isub X dX12_gap_68 ?_
      obtain ⟨w6, hw6, hz6⟩ := oI_e hf
      subst hz6
      have hf := hw6
      refine g_sub (lvsub_of _ _ [] rfl) ?_
      exact t_X12_gap_69 X hr _ _ _ hf hK
    · have hf := ife_t hc hf
      refine g_iconst (v := (0 : Int32)) X dX12_gap_62 (by decide) ?_
      refine g_goto (tgt := 69) X dX12_gap_63 (by decide) ?_
      obtain ⟨w7, hw7, hz7⟩ := oI_e hf
      subst hz7
      have hf := hw7
      refine g_sub (lvsub_of _ _ [] rfl) ?_
      exact t_X12_gap_69 X hr _ _ _ hf hK
  · have hf := ife_f hc hf
    refine g_iload_n X dX12_gap_21 rfl rfl ?_
    refine g_aload_n X dX12_gap_22 rfl rfl ?_
    refine g_get (ci := 10) (v := vR (mR M x0 6)) 6 X cdX12 i_X12_gap_X12 (by decide) k_X12_gap_f32 rfl dX12_gap_23 rfl hT1 rfl ?_
    refine g_iload_n X dX12_gap_26 rfl rfl ?_
    obtain ⟨a8, ha8, hf⟩ := dr_e hf
    obtain ⟨hT9, hf⟩ := ck_e hf
    obtain ⟨hg10, hf⟩ := ck_e hf
    refine g_iald X dX12_gap_27 ha8 hT9 hg10 ?_
    refine g_min X k_X12_gap_m96 k_X12_gap_mmins k_X12_gap_mi k_X12_gap_mminc (Nat.le_of_ble_eq_true rfl) (Nat.le_of_ble_eq_true rfl) ⟨by decide, by decide⟩ dX12_gap_28 ?_
    refine g_istore_n (lv' := [(1, vI (imin x1 ((mI M a8 x3.toNatClampNeg)))), (0, vR (some x0)), (2, vI x2), (3, vI x3)]) X dX12_gap_31 rfl (by decide) rfl ?_
    refine g_iload_n X dX12_gap_32 rfl rfl ?_
    refine g_aload_n X dX12_gap_33 rfl rfl ?_
    refine g_get (ci := 10) (v := vR (mR M x0 6)) 6 X cdX12 i_X12_gap_X12 (by decide) k_X12_gap_f32 rfl dX12_gap_34 rfl hT1 rfl ?_
    refine g_iload_n X dX12_gap_37 rfl rfl ?_
    obtain ⟨hg11, hf⟩ := ck_e hf
    refine g_iald X dX12_gap_38 ha8 hT9 hg11 ?_
    refine g_max X k_X12_gap_m102 k_X12_gap_mmaxs k_X12_gap_mi k_X12_gap_mmaxc (Nat.le_of_ble_eq_true rfl) (Nat.le_of_ble_eq_true rfl) ⟨by decide, by decide⟩ dX12_gap_39 ?_
    refine g_istore_n (lv' := [(2, vI (imax x2 ((mI M a8 x3.toNatClampNeg)))), (1, vI (imin x1 ((mI M a8 x3.toNatClampNeg)))), (0, vR (some x0)), (3, vI x3)]) X dX12_gap_42 rfl (by decide) rfl ?_
    refine g_iinc (v := (1 : Int32)) (lv' := [(3, vI (x3 + (1 : Int32))), (2, vI (imax x2 ((mI M a8 x3.toNatClampNeg)))), (1, vI (imin x1 ((mI M a8 x3.toNatClampNeg)))), (0, vR (some x0))]) X dX12_gap_43 rfl (by decide) (by decide) rfl ?_
    refine g_goto (tgt := 7) X dX12_gap_46 (by decide) ?_
    cases hf
    refine g_sub (lvsub_of _ _ [3, 2, 1, 0] rfl) ?_
    exact hK
set_option maxHeartbeats 4000000 in
set_option maxRecDepth 100000 in
theorem tl_X12_gap_7 (X : gX p s m args meth c D cy B (gSt Z B H0) RX12 cX12_gap wsX12_gap 4) (hr : meth.sig.returnType = (some .int)) {Q : State → Prop} : ∀ (M : gMem) (x0 : Nat) (x1 : Int32) (x2 : Int32) (x3 : Int32) (z : Int32 × gMem), lp_X12_gap_7 M x0 x1 x2 x3 = some z → (fun (r : Int32 × gMem) => Q = gMQ below D cy B H0 args s 0 0 (some (vI r.1)) r.2) z → gGo p l e rX12_gap s m args below meth c D cy B H0 4 0 0 Q 7 [(0, vR (some x0)), (1, vI x1), (2, vI x2), (3, vI x3)] [] M := by
  intro M x0 x1 x2 x3 z hf hK
  refine lp_ind (P := (fun (q : gMem × Int32 × Int32 × Int32) (z : Int32 × gMem) => (fun (r : Int32 × gMem) => Q = gMQ below D cy B H0 args s 0 0 (some (vI r.1)) r.2) z → gGo p l e rX12_gap s m args below meth c D cy B H0 4 0 0 Q 7 [(0, vR (some x0)), (1, vI q.2.1), (2, vI q.2.2.1), (3, vI q.2.2.2)] [] q.1)) (fun q z hq => ?_) _ _ hf hK
  intro hK
  obtain ⟨w, hw, hm⟩ := hq
  refine tb_X12_gap_7 X hr _ _ _ _ _ w hw ?_
  cases w with
  | inl a => exact hm hK
  | inr b => cases hm; exact hK
set_option maxHeartbeats 4000000 in
set_option maxRecDepth 100000 in
theorem t_X12_gap_0 (X : gX p s m args meth c D cy B (gSt Z B H0) RX12 cX12_gap wsX12_gap 4) (hr : meth.sig.returnType = (some .int)) {Q : State → Prop} : ∀ (M : gMem) (x0 : Nat) (z : Int32 × gMem), b_X12_gap_0 M x0 = some z → (fun (r : Int32 × gMem) => Q = gMQ below D cy B H0 args s 0 0 (some (vI r.1)) r.2) z → gGo p l e rX12_gap s m args below meth c D cy B H0 4 0 0 Q 0 [(0, vR (some x0))] [] M := by
  intro M x0 z hf hK
  unfold b_X12_gap_0 at hf
  refine g_ldc (v := (2147483647 : Int32)) X k_X12_gap_c92 dX12_gap_0 ?_
  refine g_istore_n (lv' := [(1, vI (2147483647 : Int32)), (0, vR (some x0))]) X dX12_gap_2 rfl (by decide) rfl ?_
  refine g_iconst (v := (0 : Int32)) X dX12_gap_3 (by decide) ?_
  refine g_istore_n (lv' := [(2, vI (0 : Int32)), (1, vI (2147483647 : Int32)), (0, vR (some x0))]) X dX12_gap_4 rfl (by decide) rfl ?_
  refine g_iconst (v := (0 : Int32)) X dX12_gap_5 (by decide) ?_
  refine g_istore_n (lv' := [(3, vI (0 : Int32)), (2, vI (0 : Int32)), (1, vI (2147483647 : Int32)), (0, vR (some x0))]) X dX12_gap_6 rfl (by decide) rfl ?_
  refine g_sub (lvsub_of _ _ [3, 2, 1, 0] rfl) ?_
  exact tl_X12_gap_7 X hr _ _ _ _ _ _ hf hK
set_option maxHeartbeats 4000000 in
set_option maxRecDepth 100000 in
theorem m_X12_gap (l : Launch) {D : va_G} {cy : Nat → ClassId} {B : Nat} {H0 : Heap} {Z : Nat → Nat} {M M1 : gMem} {x0 : Nat} {r : Int32} (hf : f_X12_gap M x0 = some (r, M1)) : Met l yX12_gap wsX12_gap rX12_gap (va_Pc (Value.ref x0 :: List.map gv []) (gPre D cy B H0 (gSt Z B H0) M)) (gQ D cy B H0 (some (vI r)) M1) 0 0 (gA B) := by
  refine Met.ofW (cc := cX12_gap) (maxL := 4) (ret := (some .int)) (by decide) rfl ?_
  intro p e s m args below meth c s₁ Bd hml hv
  obtain ⟨rfl, hW, hKK, hFs⟩ := hv
  have X : gX p s m _ meth c D cy B (gSt Z B H0) RX12 cX12_gap wsX12_gap 4 := ⟨Bd.exec, Bd.bytes, atoms_spec (ws := wsX12_gap) Bd.pre, findClass_of_methodNamed Bd.named, hml, hKK, by rw [hW.1]; exact hW.2.1, Bd.notSynchronized, hFs⟩
  have hr := Bd.returns
  have hl := lv_entry ([.ref x0]) (n := 4) (Nat.le_of_ble_eq_true rfl)
  show W p l e rX12_gap s m _ below meth c s.heap [] 0 0 _ (entryFrame m ([.ref x0] : List Value).toArray 4)
  rw [lg_entry_eq]
  generalize (lg_sl ([.ref x0]) ++ List.replicate (4 - (lg_sl ([.ref x0])).length) Slot.unset).toArray = ls at hl ⊢
  have hl : lv_has ls 4 (List.map gq [(0, vR (some x0))]) := hl
  exact t_X12_gap_0 X hr _ _ _ hf rfl s.heap [] ls hW va_S.rf (lv_has_sub hl (lvsub_of _ _ [0] rfl))
/-! ## TideLotsModel$State.draw()V -/
theorem dX12_draw_0 : decode cX12_draw 0 = .ok (.iconst 0, 1) := by decide +kernel
theorem dX12_draw_1 : decode cX12_draw 1 = .ok (.istore_n 1, 1) := by decide +kernel
theorem dX12_draw_2 : decode cX12_draw 2 = .ok (.iload_n 1, 1) := by decide +kernel
theorem dX12_draw_3 : decode cX12_draw 3 = .ok (.aload_n 0, 1) := by decide +kernel
theorem dX12_draw_4 : decode cX12_draw 4 = .ok (.getfield 3, 3) := by decide +kernel
theorem dX12_draw_7 : decode cX12_draw 7 = .ok (.getfield 81, 3) := by decide +kernel
theorem dX12_draw_10 : decode cX12_draw 10 = .ok (.getfield 93, 3) := by decide +kernel
theorem dX12_draw_13 : decode cX12_draw 13 = .ok (.if_icmp .ge 16, 3) := by decide +kernel
theorem dX12_draw_16 : decode cX12_draw 16 = .ok (.aload_n 0, 1) := by decide +kernel
theorem dX12_draw_17 : decode cX12_draw 17 = .ok (.getfield 59, 3) := by decide +kernel
theorem dX12_draw_20 : decode cX12_draw 20 = .ok (.iload_n 1, 1) := by decide +kernel
theorem dX12_draw_21 : decode cX12_draw 21 = .ok (.iload_n 1, 1) := by decide +kernel
theorem dX12_draw_22 : decode cX12_draw 22 = .ok (.iastore, 1) := by decide +kernel
theorem dX12_draw_23 : decode cX12_draw 23 = .ok (.iinc 1 1, 3) := by decide +kernel
theorem dX12_draw_26 : decode cX12_draw 26 = .ok (.goto (-24), 3) := by decide +kernel
theorem dX12_draw_29 : decode cX12_draw 29 = .ok (.iconst 0, 1) := by decide +kernel
theorem dX12_draw_30 : decode cX12_draw 30 = .ok (.istore_n 1, 1) := by decide +kernel
theorem dX12_draw_31 : decode cX12_draw 31 = .ok (.iload_n 1, 1) := by decide +kernel
theorem dX12_draw_32 : decode cX12_draw 32 = .ok (.aload_n 0, 1) := by decide +kernel
theorem dX12_draw_33 : decode cX12_draw 33 = .ok (.getfield 3, 3) := by decide +kernel
theorem dX12_draw_36 : decode cX12_draw 36 = .ok (.getfield 81, 3) := by decide +kernel
theorem dX12_draw_39 : decode cX12_draw 39 = .ok (.getfield 93, 3) := by decide +kernel
theorem dX12_draw_42 : decode cX12_draw 42 = .ok (.if_icmp .ge 77, 3) := by decide +kernel
theorem dX12_draw_45 : decode cX12_draw 45 = .ok (.aload_n 0, 1) := by decide +kernel
theorem dX12_draw_46 : decode cX12_draw 46 = .ok (.aload_n 0, 1) := by decide +kernel
theorem dX12_draw_47 : decode cX12_draw 47 = .ok (.getfield 15, 3) := by decide +kernel
theorem dX12_draw_50 : decode cX12_draw 50 = .ok (.ldc 105, 2) := by decide +kernel
theorem dX12_draw_52 : decode cX12_draw 52 = .ok (.imul, 1) := by decide +kernel
theorem dX12_draw_53 : decode cX12_draw 53 = .ok (.iconst 1, 1) := by decide +kernel
theorem dX12_draw_54 : decode cX12_draw 54 = .ok (.iadd, 1) := by decide +kernel
theorem dX12_draw_55 : decode cX12_draw 55 = .ok (.putfield 15, 3) := by decide +kernel
theorem dX12_draw_58 : decode cX12_draw 58 = .ok (.aload_n 0, 1) := by decide +kernel
theorem dX12_draw_59 : decode cX12_draw 59 = .ok (.getfield 3, 3) := by decide +kernel
theorem dX12_draw_62 : decode cX12_draw 62 = .ok (.getfield 81, 3) := by decide +kernel
theorem dX12_draw_65 : decode cX12_draw 65 = .ok (.getfield 93, 3) := by decide +kernel
theorem dX12_draw_68 : decode cX12_draw 68 = .ok (.iload_n 1, 1) := by decide +kernel
theorem dX12_draw_69 : decode cX12_draw 69 = .ok (.isub, 1) := by decide +kernel
theorem dX12_draw_70 : decode cX12_draw 70 = .ok (.istore_n 2, 1) := by decide +kernel
theorem dX12_draw_71 : decode cX12_draw 71 = .ok (.aload_n 0, 1) := by decide +kernel
theorem dX12_draw_72 : decode cX12_draw 72 = .ok (.getfield 15, 3) := by decide +kernel
theorem dX12_draw_75 : decode cX12_draw 75 = .ok (.bipush 16, 2) := by decide +kernel
theorem dX12_draw_77 : decode cX12_draw 77 = .ok (.iushr, 1) := by decide +kernel
theorem dX12_draw_78 : decode cX12_draw 78 = .ok (.iload_n 2, 1) := by decide +kernel
theorem dX12_draw_79 : decode cX12_draw 79 = .ok (.irem, 1) := by decide +kernel
theorem dX12_draw_80 : decode cX12_draw 80 = .ok (.istore_n 3, 1) := by decide +kernel
theorem dX12_draw_81 : decode cX12_draw 81 = .ok (.aload_n 0, 1) := by decide +kernel
theorem dX12_draw_82 : decode cX12_draw 82 = .ok (.getfield 56, 3) := by decide +kernel
theorem dX12_draw_85 : decode cX12_draw 85 = .ok (.iload_n 1, 1) := by decide +kernel
theorem dX12_draw_86 : decode cX12_draw 86 = .ok (.aload_n 0, 1) := by decide +kernel
theorem dX12_draw_87 : decode cX12_draw 87 = .ok (.getfield 59, 3) := by decide +kernel
theorem dX12_draw_90 : decode cX12_draw 90 = .ok (.iload_n 3, 1) := by decide +kernel
theorem dX12_draw_91 : decode cX12_draw 91 = .ok (.iaload, 1) := by decide +kernel
theorem dX12_draw_92 : decode cX12_draw 92 = .ok (.iastore, 1) := by decide +kernel
theorem dX12_draw_93 : decode cX12_draw 93 = .ok (.aload_n 0, 1) := by decide +kernel
theorem dX12_draw_94 : decode cX12_draw 94 = .ok (.getfield 59, 3) := by decide +kernel
theorem dX12_draw_97 : decode cX12_draw 97 = .ok (.iload_n 3, 1) := by decide +kernel
theorem dX12_draw_98 : decode cX12_draw 98 = .ok (.iconst 1, 1) := by decide +kernel
theorem dX12_draw_99 : decode cX12_draw 99 = .ok (.iadd, 1) := by decide +kernel
theorem dX12_draw_100 : decode cX12_draw 100 = .ok (.aload_n 0, 1) := by decide +kernel
theorem dX12_draw_101 : decode cX12_draw 101 = .ok (.getfield 59, 3) := by decide +kernel
theorem dX12_draw_104 : decode cX12_draw 104 = .ok (.iload_n 3, 1) := by decide +kernel
theorem dX12_draw_105 : decode cX12_draw 105 = .ok (.iload_n 2, 1) := by decide +kernel
theorem dX12_draw_106 : decode cX12_draw 106 = .ok (.iload_n 3, 1) := by decide +kernel
theorem dX12_draw_107 : decode cX12_draw 107 = .ok (.isub, 1) := by decide +kernel
theorem dX12_draw_108 : decode cX12_draw 108 = .ok (.iconst 1, 1) := by decide +kernel
theorem dX12_draw_109 : decode cX12_draw 109 = .ok (.isub, 1) := by decide +kernel
theorem dX12_draw_110 : decode cX12_draw 110 = .ok (.invokestatic 68, 3) := by decide +kernel
theorem dX12_draw_113 : decode cX12_draw 113 = .ok (.iinc 1 1, 3) := by decide +kernel
theorem dX12_draw_116 : decode cX12_draw 116 = .ok (.goto (-85), 3) := by decide +kernel
theorem dX12_draw_119 : decode cX12_draw 119 = .ok (.return_, 1) := by decide +kernel
theorem k_X12_draw_f3 : Cond.fieldLink RX12 3 "TideLotsModel$State" "this$0" "LTideLotsModel;" ∈ wsX12_draw := by decide +kernel
theorem i_X12_draw_X12 : ∀ w ∈ u_ws RX12 TX12 19, w ∈ wsX12_draw := by decide +kernel
theorem i_X12_draw_X14 : ∀ w ∈ u_ws RX14 TX14 15, w ∈ wsX12_draw := by decide +kernel
theorem i_X12_draw_X13 : ∀ w ∈ u_ws RX13 TX13 25, w ∈ wsX12_draw := by decide +kernel
theorem k_X12_draw_f15 : Cond.fieldLink RX12 15 "TideLotsModel$State" "l" "I" ∈ wsX12_draw := by decide +kernel
theorem k_X12_draw_c105 : Jvm.Cond.constant RX12 105 (69069) ∈ wsX12_draw := by decide +kernel
theorem k_X12_draw_f56 : Cond.fieldLink RX12 56 "TideLotsModel$State" "lots" "[I" ∈ wsX12_draw := by decide +kernel
theorem k_X12_draw_f59 : Cond.fieldLink RX12 59 "TideLotsModel$State" "row" "[I" ∈ wsX12_draw := by decide +kernel
theorem k_X12_draw_ac68 : Cond.methodLink RX12 68 arraycopyName ∈ wsX12_draw := by decide +kernel
theorem k_X12_draw_acn : Cond.native arraycopyName ∈ wsX12_draw := by decide +kernel
theorem k_X12_draw_acs : Cond.static arraycopyName ∈ wsX12_draw := by decide +kernel
theorem k_X12_draw_aci : Cond.initialized "java/lang/System" ∈ wsX12_draw := by decide +kernel
abbrev rX12_draw : Room := { frames := 1, cells := 0, slots := 0, locals := 60 }
noncomputable def bb_X12_draw_31 (M : gMem) (x0 : Nat) (x1 : Int32) : Option ((gMem × Int32) ⊕ (Unit × gMem)) :=
  ck (mT M x0 = 11) <| dr ((mR M x0 18)) fun a2 => ck (mT M a2 = 13) <| dr ((mR M a2 11)) fun a4 => ck (mT M a4 = 12) <| (if (mI M a4 4) ≤ x1 then oI (some ((), M)) else lw (wI M x0 1 ((((mI M x0 1) * (69069 : Int32)) + (1 : Int32)))) fun M7 => dr ((mR M7 x0 18)) fun a11 => ck (mT M7 a11 = 13) <| dr ((mR M7 a11 11)) fun a13 => ck (mT M7 a13 = 12) <| ck (¬ ((mI M7 a13 4) - x1) = 0) <| dr ((mR M7 x0 15)) fun a16 => ck (mT M7 a16 = 20) <| ck (inb ((ushr ((mI M7 x0 1)) ((16 : Int32))) - (ushr ((mI M7 x0 1)) ((16 : Int32))) / ((mI M7 a13 4) - x1) * ((mI M7 a13 4) - x1)) (mL M7 a16)) <| dr ((mR M7 x0 14)) fun a19 => ck (mT M7 a19 = 20) <| ck (inb x1 (mL M7 a19)) <| lw (wI M7 a19 x1.toNatClampNeg ((mI M7 a16 (((ushr ((mI M7 x0 1)) ((16 : Int32))) - (ushr ((mI M7 x0 1)) ((16 : Int32))) / ((mI M7 a13 4) - x1) * ((mI M7 a13 4) - x1))).toNatClampNeg))) fun M22 => dr ((mR M22 x0 15)) fun a30 => ck (mT M22 a30 = 20) <| ck (¬ (((ushr ((mI M7 x0 1)) ((16 : Int32))) - (ushr ((mI M7 x0 1)) ((16 : Int32))) / ((mI M7 a13 4) - x1) * ((mI M7 a13 4) - x1)) + (1 : Int32)) < 0) <| ck (¬ ((ushr ((mI M7 x0 1)) ((16 : Int32))) - (ushr ((mI M7 x0 1)) ((16 : Int32))) / ((mI M7 a13 4) - x1) * ((mI M7 a13 4) - x1)) < 0) <| ck (¬ ((((mI M7 a13 4) - x1) - ((ushr ((mI M7 x0 1)) ((16 : Int32))) - (ushr ((mI M7 x0 1)) ((16 : Int32))) / ((mI M7 a13 4) - x1) * ((mI M7 a13 4) - x1))) - (1 : Int32)) < 0) <| ck (((((ushr ((mI M7 x0 1)) ((16 : Int32))) - (ushr ((mI M7 x0 1)) ((16 : Int32))) / ((mI M7 a13 4) - x1) * ((mI M7 a13 4) - x1)) + (1 : Int32))).toNatClampNeg + (((((mI M7 a13 4) - x1) - ((ushr ((mI M7 x0 1)) ((16 : Int32))) - (ushr ((mI M7 x0 1)) ((16 : Int32))) / ((mI M7 a13 4) - x1) * ((mI M7 a13 4) - x1))) - (1 : Int32))).toNatClampNeg ≤ mL M22 a30) <| ck ((((ushr ((mI M7 x0 1)) ((16 : Int32))) - (ushr ((mI M7 x0 1)) ((16 : Int32))) / ((mI M7 a13 4) - x1) * ((mI M7 a13 4) - x1))).toNatClampNeg + (((((mI M7 a13 4) - x1) - ((ushr ((mI M7 x0 1)) ((16 : Int32))) - (ushr ((mI M7 x0 1)) ((16 : Int32))) / ((mI M7 a13 4) - x1) * ((mI M7 a13 4) - x1))) - (1 : Int32))).toNatClampNeg ≤ mL M22 a30) <| lw (cpI M22 a30 ((((ushr ((mI M7 x0 1)) ((16 : Int32))) - (ushr ((mI M7 x0 1)) ((16 : Int32))) / ((mI M7 a13 4) - x1) * ((mI M7 a13 4) - x1)) + (1 : Int32))).toNatClampNeg a30 (((ushr ((mI M7 x0 1)) ((16 : Int32))) - (ushr ((mI M7 x0 1)) ((16 : Int32))) / ((mI M7 a13 4) - x1) * ((mI M7 a13 4) - x1))).toNatClampNeg (((((mI M7 a13 4) - x1) - ((ushr ((mI M7 x0 1)) ((16 : Int32))) - (ushr ((mI M7 x0 1)) ((16 : Int32))) / ((mI M7 a13 4) - x1) * ((mI M7 a13 4) - x1))) - (1 : Int32))).toNatClampNeg) fun M37 => some (.inl (M37, (x1 + (1 : Int32)))))
noncomputable def lp_X12_draw_31 (M : gMem) (x0 : Nat) (x1 : Int32) : Option (Unit × gMem) :=
  lp (fun (q : gMem × Int32) => bb_X12_draw_31 q.1 x0 q.2) (M, x1)
noncomputable def bb_X12_draw_2 (M : gMem) (x0 : Nat) (x1 : Int32) : Option ((gMem × Int32) ⊕ (Unit × gMem)) :=
  ck (mT M x0 = 11) <| dr ((mR M x0 18)) fun a47 => ck (mT M a47 = 13) <| dr ((mR M a47 11)) fun a49 => ck (mT M a49 = 12) <| (if (mI M a49 4) ≤ x1 then oI (lp_X12_draw_31 M x0 ((0 : Int32))) else dr ((mR M x0 15)) fun a52 => ck (mT M a52 = 20) <| ck (inb x1 (mL M a52)) <| lw (wI M a52 x1.toNatClampNeg x1) fun M55 => some (.inl (M55, (x1 + (1 : Int32)))))
noncomputable def lp_X12_draw_2 (M : gMem) (x0 : Nat) (x1 : Int32) : Option (Unit × gMem) :=
  lp (fun (q : gMem × Int32) => bb_X12_draw_2 q.1 x0 q.2) (M, x1)
noncomputable def b_X12_draw_0 (M : gMem) (x0 : Nat) : Option (Unit × gMem) :=
  lp_X12_draw_2 M x0 ((0 : Int32))
noncomputable def f_X12_draw (M : gMem) (x0 : Nat) : Option (Unit × gMem) :=
  b_X12_draw_0 M x0
set_option maxHeartbeats 4000000 in
set_option maxRecDepth 100000 in
theorem tb_X12_draw_31 (X : gX p s m args meth c D cy B (gSt Z B H0) RX12 cX12_draw wsX12_draw 4) (hr : meth.sig.returnType = none) {Q : State → Prop} : ∀ (M : gMem) (x0 : Nat) (x1 : Int32) (z : (gMem × Int32) ⊕ (Unit × gMem)), bb_X12_draw_31 M x0 x1 = some z → (Sum.elim (fun (q : gMem × Int32) => gGo p l e rX12_draw s m args below meth c D cy B H0 4 0 0 Q 31 [(0, vR (some x0)), (1, vI q.2)] [] q.1) (fun (r : Unit × gMem) => Q = gMQ below D cy B H0 args s 0 0 none r.2)) z → gGo p l e rX12_draw s m args below meth c D cy B H0 4 0 0 Q 31 [(0, vR (some x0)), (1, vI x1)] [] M := by
  intro M x0 x1 z hf hK
  unfold bb_X12_draw_31 at hf
  refine g_iload_n X dX12_draw_31 rfl rfl ?_
  refine g_aload_n X dX12_draw_32 rfl rfl ?_
  obtain ⟨hT1, hf⟩ := ck_e hf
  refine g_get (ci := 10) (v := vR (mR M x0 18)) 18 X cdX12 i_X12_draw_X12 (by decide) k_X12_draw_f3 rfl dX12_draw_33 rfl hT1 rfl ?_
  obtain ⟨a2, ha2, hf⟩ := dr_e hf
  obtain ⟨hT3, hf⟩ := ck_e hf
  refine g_getN (ci := 12) (w := vR (mR M a2 11)) 11 X cdX14 i_X12_draw_X14 (by decide) (gNw X _ kn_X12_81) rfl dX12_draw_36 ha2 hT3 rfl ?_
  obtain ⟨a4, ha4, hf⟩ := dr_e hf
  obtain ⟨hT5, hf⟩ := ck_e hf
  refine g_getN (ci := 11) (w := vI (mI M a4 4)) 4 X cdX13 i_X12_draw_X13 (by decide) (gNw X _ kn_X12_93) rfl dX12_draw_39 ha4 hT5 rfl ?_
  refine g_icmp_ge (tgt := 119) X dX12_draw_42 (by decide) (fun hc => ?_) (fun hc => ?_)
  · have hf := ife_t hc hf
    obtain ⟨w6, hw6, hz6⟩ := oI_e hf
    subst hz6
    have hf := hw6
    cases hf
    refine g_eqQ hK ?_
    exact g_vret X hr dX12_draw_119
  · have hf := ife_f hc hf
    refine g_aload_n X dX12_draw_45 rfl rfl ?_
    refine g_aload_n X dX12_draw_46 rfl rfl ?_
    refine g_get (ci := 10) (v := vI (mI M x0 1)) 1 X cdX12 i_X12_draw_X12 (by decide) k_X12_draw_f15 rfl dX12_draw_47 rfl hT1 rfl ?_
    refine g_ldc (v := (69069 : Int32)) X k_X12_draw_c105 dX12_draw_50 ?_
    refine g_imul X dX12_draw_52 ?_
    refine g_iconst (v := (1 : Int32)) X dX12_draw_53 (by decide) ?_
    refine g_iadd X dX12_draw_54 ?_
    refine g_putI (ci := 10) 1 X cdX12 i_X12_draw_X12 (by decide) k_X12_draw_f15 rfl dX12_draw_55 rfl hT1 (Or.inl rfl) rfl rfl rfl ?_
    obtain ⟨M7, hM7, hf⟩ := lw_e hf
    rw [← hM7]
    have hT8 : mT M7 x0 = 11 := by rw [hM7]; exact hT1
    have hT9 : mT M7 a2 = 13 := by rw [hM7]; exact hT3
    have hT10 : mT M7 a4 = 12 := by rw [hM7]; exact hT5
    refine g_aload_n X dX12_draw_58 rfl rfl ?_
    refine g_get (ci := 10) (v := vR (mR M7 x0 18)) 18 X cdX12 i_X12_draw_X12 (by decide) k_X12_draw_f3 rfl dX12_draw_59 rfl hT8 rfl ?_
    obtain ⟨a11, ha11, hf⟩ := dr_e hf
    obtain ⟨hT12, hf⟩ := ck_e hf
    refine g_getN (ci := 12) (w := vR (mR M7 a11 11)) 11 X cdX14 i_X12_draw_X14 (by decide) (gNw X _ kn_X12_81) rfl dX12_draw_62 ha11 hT12 rfl ?_
    obtain ⟨a13, ha13, hf⟩ := dr_e hf
    obtain ⟨hT14, hf⟩ := ck_e hf
    refine g_getN (ci := 11) (w := vI (mI M7 a13 4)) 4 X cdX13 i_X12_draw_X13 (by decide) (gNw X _ kn_X12_93) rfl dX12_draw_65 ha13 hT14 rfl ?_
    refine g_iload_n X dX12_draw_68 rfl rfl ?_
    refine g_isub X dX12_draw_69 ?_
    refine g_istore_n (lv' := [(2, vI ((mI M7 a13 4) - x1)), (0, vR (some x0)), (1, vI x1)]) X dX12_draw_70 rfl (by decide) rfl ?_
    refine g_aload_n X dX12_draw_71 rfl rfl ?_
    refine g_get (ci := 10) (v := vI (mI M7 x0 1)) 1 X cdX12 i_X12_draw_X12 (by decide) k_X12_draw_f15 rfl dX12_draw_72 rfl hT8 rfl ?_
    refine g_bipush (v := (16 : Int32)) X dX12_draw_75 (by decide) ?_
    refine g_iushr X dX12_draw_77 ?_
    refine g_iload_n X dX12_draw_78 rfl rfl ?_
    obtain ⟨hg15, hf⟩ := ck_e hf
    refine g_irem X dX12_draw_79 hg15 ?_
    refine g_istore_n (lv' := [(3, vI ((ushr ((mI M7 x0 1)) ((16 : Int32))) - (ushr ((mI M7 x0 1)) ((16 : Int32))) / ((mI M7 a13 4) - x1) * ((mI M7 a13 4) - x1))), (2, vI ((mI M7 a13 4) - x1)), (0, vR (some x0)), (1, vI x1)]) X dX12_draw_80 rfl (by decide) rfl ?_
    refine g_aload_n X dX12_draw_81 rfl rfl ?_
    refine g_get (ci := 10) (v := vR (mR M7 x0 14)) 14 X cdX12 i_X12_draw_X12 (by decide) k_X12_draw_f56 rfl dX12_draw_82 rfl hT8 rfl ?_
    refine g_iload_n X dX12_draw_85 rfl rfl ?_
    refine g_aload_n X dX12_draw_86 rfl rfl ?_
    refine g_get (ci := 10) (v := vR (mR M7 x0 15)) 15 X cdX12 i_X12_draw_X12 (by decide) k_X12_draw_f59 rfl dX12_draw_87 rfl hT8 rfl ?_
    refine g_iload_n X dX12_draw_90 rfl rfl ?_
    obtain ⟨a16, ha16, hf⟩ := dr_e hf
    obtain ⟨hT17, hf⟩ := ck_e hf
    obtain ⟨hg18, hf⟩ := ck_e hf
    refine g_iald X dX12_draw_91 ha16 hT17 hg18 ?_
    obtain ⟨a19, ha19, hf⟩ := dr_e hf
    obtain ⟨hT20, hf⟩ := ck_e hf
    obtain ⟨hg21, hf⟩ := ck_e hf
    refine g_iast X dX12_draw_92 ha19 hT20 hg21 ?_
    obtain ⟨M22, hM22, hf⟩ := lw_e hf
    rw [← hM22]
    have hT23 : mT M22 x0 = 11 := by rw [hM22]; exact hT8
    have hT24 : mT M22 a2 = 13 := by rw [hM22]; exact hT9
    have hT25 : mT M22 a4 = 12 := by rw [hM22]; exact hT10
    have hT26 : mT M22 a11 = 13 := by rw [hM22]; exact hT12
    have hT27 : mT M22 a13 = 12 := by rw [hM22]; exact hT14
    have hT28 : mT M22 a16 = 20 := by rw [hM22]; exact hT17
    have hT29 : mT M22 a19 = 20 := by rw [hM22]; exact hT20
    refine g_aload_n X dX12_draw_93 rfl rfl ?_
    refine g_get (ci := 10) (v := vR (mR M22 x0 15)) 15 X cdX12 i_X12_draw_X12 (by decide) k_X12_draw_f59 rfl dX12_draw_94 rfl hT23 rfl ?_
    refine g_iload_n X dX12_draw_97 rfl rfl ?_
    refine g_iconst (v := (1 : Int32)) X dX12_draw_98 (by decide) ?_
    refine g_iadd X dX12_draw_99 ?_
    refine g_aload_n X dX12_draw_100 rfl rfl ?_
    refine g_get (ci := 10) (v := vR (mR M22 x0 15)) 15 X cdX12 i_X12_draw_X12 (by decide) k_X12_draw_f59 rfl dX12_draw_101 rfl hT23 rfl ?_
    refine g_iload_n X dX12_draw_104 rfl rfl ?_
    refine g_iload_n X dX12_draw_105 rfl rfl ?_
    refine g_iload_n X dX12_draw_106 rfl rfl ?_
    refine g_isub X dX12_draw_107 ?_
    refine g_iconst (v := (1 : Int32)) X dX12_draw_108 (by decide) ?_
    refine g_isub X dX12_draw_109 ?_
    obtain ⟨a30, ha30, hf⟩ := dr_e hf
    obtain ⟨hT31, hf⟩ := ck_e hf
    obtain ⟨hg32, hf⟩ := ck_e hf
    obtain ⟨hg33, hf⟩ := ck_e hf
    obtain ⟨hg34, hf⟩ := ck_e hf
    obtain ⟨hg35, hf⟩ := ck_e hf
    obtain ⟨hg36, hf⟩ := ck_e hf
    refine g_copy X k_X12_draw_ac68 k_X12_draw_acn k_X12_draw_acs k_X12_draw_aci ha30 ha30 hT31 hT31 hg32 hg33 hg34 hg35 hg36 (Nat.le_of_ble_eq_true rfl) (Nat.le_of_ble_eq_true rfl) dX12_draw_110 ?_
    obtain ⟨M37, hM37, hf⟩ := lw_e hf
    rw [← hM37]
    have hT38 : mT M37 x0 = 11 := by rw [hM37]; exact hT23
    have hT39 : mT M37 a2 = 13 := by rw [hM37]; exact hT24
    have hT40 : mT M37 a4 = 12 := by rw [hM37]; exact hT25
    have hT41 : mT M37 a11 = 13 := by rw [hM37]; exact hT26
    have hT42 : mT M37 a13 = 12 := by rw [hM37]; exact hT27
    have hT43 : mT M37 a16 = 20 := by rw [hM37]; exact hT28
    have hT44 : mT M37 a19 = 20 := by rw [hM37]; exact hT29
    have hT45 : mT M37 a30 = 20 := by rw [hM37]; exact hT31
    refine g_iinc (v := (1 : Int32)) (lv' := [(1, vI (x1 + (1 : Int32))), (3, vI ((ushr ((mI M7 x0 1)) ((16 : Int32))) - (ushr ((mI M7 x0 1)) ((16 : Int32))) / ((mI M7 a13 4) - x1) * ((mI M7 a13 4) - x1))), (2, vI ((mI M7 a13 4) - x1)), (0, vR (some x0))]) X dX12_draw_113 rfl (by decide) (by decide) rfl ?_
    refine g_goto (tgt := 31) X dX12_draw_116 (by decide) ?_
    cases hf
    refine g_sub (lvsub_of _ _ [3, 0] rfl) ?_
    exact hK
set_option maxHeartbeats 4000000 in
set_option maxRecDepth 100000 in
theorem tl_X12_draw_31 (X : gX p s m args meth c D cy B (gSt Z B H0) RX12 cX12_draw wsX12_draw 4) (hr : meth.sig.returnType = none) {Q : State → Prop} : ∀ (M : gMem) (x0 : Nat) (x1 : Int32) (z : Unit × gMem), lp_X12_draw_31 M x0 x1 = some z → (fun (r : Unit × gMem) => Q = gMQ below D cy B H0 args s 0 0 none r.2) z → gGo p l e rX12_draw s m args below meth c D cy B H0 4 0 0 Q 31 [(0, vR (some x0)), (1, vI x1)] [] M := by
  intro M x0 x1 z hf hK
  refine lp_ind (P := (fun (q : gMem × Int32) (z : Unit × gMem) => (fun (r : Unit × gMem) => Q = gMQ below D cy B H0 args s 0 0 none r.2) z → gGo p l e rX12_draw s m args below meth c D cy B H0 4 0 0 Q 31 [(0, vR (some x0)), (1, vI q.2)] [] q.1)) (fun q z hq => ?_) _ _ hf hK
  intro hK
  obtain ⟨w, hw, hm⟩ := hq
  refine tb_X12_draw_31 X hr _ _ _ w hw ?_
  cases w with
  | inl a => exact hm hK
  | inr b => cases hm; exact hK
set_option maxHeartbeats 4000000 in
set_option maxRecDepth 100000 in
theorem tb_X12_draw_2 (X : gX p s m args meth c D cy B (gSt Z B H0) RX12 cX12_draw wsX12_draw 4) (hr : meth.sig.returnType = none) {Q : State → Prop} : ∀ (M : gMem) (x0 : Nat) (x1 : Int32) (z : (gMem × Int32) ⊕ (Unit × gMem)), bb_X12_draw_2 M x0 x1 = some z → (Sum.elim (fun (q : gMem × Int32) => gGo p l e rX12_draw s m args below meth c D cy B H0 4 0 0 Q 2 [(0, vR (some x0)), (1, vI q.2)] [] q.1) (fun (r : Unit × gMem) => Q = gMQ below D cy B H0 args s 0 0 none r.2)) z → gGo p l e rX12_draw s m args below meth c D cy B H0 4 0 0 Q 2 [(0, vR (some x0)), (1, vI x1)] [] M := by
  intro M x0 x1 z hf hK
  unfold bb_X12_draw_2 at hf
  refine g_iload_n X dX12_draw_2 rfl rfl ?_
  refine g_aload_n X dX12_draw_3 rfl rfl ?_
  obtain ⟨hT46, hf⟩ := ck_e hf
  refine g_get (ci := 10) (v := vR (mR M x0 18)) 18 X cdX12 i_X12_draw_X12 (by decide) k_X12_draw_f3 rfl dX12_draw_4 rfl hT46 rfl ?_
  obtain ⟨a47, ha47, hf⟩ := dr_e hf
  obtain ⟨hT48, hf⟩ := ck_e hf
  refine g_getN (ci := 12) (w := vR (mR M a47 11)) 11 X cdX14 i_X12_draw_X14 (by decide) (gNw X _ kn_X12_81) rfl dX12_draw_7 ha47 hT48 rfl ?_
  obtain ⟨a49, ha49, hf⟩ := dr_e hf
  obtain ⟨hT50, hf⟩ := ck_e hf
  refine g_getN (ci := 11) (w := vI (mI M a49 4)) 4 X cdX13 i_X12_draw_X13 (by decide) (gNw X _ kn_X12_93) rfl dX12_draw_10 ha49 hT50 rfl ?_
  refine g_icmp_ge (tgt := 29) X dX12_draw_13 (by decide) (fun hc => ?_) (fun hc => ?_)
  · have hf := ife_t hc hf
    refine g_iconst (v := (0 : Int32)) X dX12_draw_29 (by decide) ?_
    refine g_istore_n (lv' := [(1, vI (0 : Int32)), (0, vR (some x0))]) X dX12_draw_30 rfl (by decide) rfl ?_
    obtain ⟨w51, hw51, hz51⟩ := oI_e hf
    subst hz51
    have hf := hw51
    refine g_sub (lvsub_of _ _ [1, 0] rfl) ?_
    exact tl_X12_draw_31 X hr _ _ _ _ hf hK
  · have hf := ife_f hc hf
    refine g_aload_n X dX12_draw_16 rfl rfl ?_
    refine g_get (ci := 10) (v := vR (mR M x0 15)) 15 X cdX12 i_X12_draw_X12 (by decide) k_X12_draw_f59 rfl dX12_draw_17 rfl hT46 rfl ?_
    refine g_iload_n X dX12_draw_20 rfl rfl ?_
    refine g_iload_n X dX12_draw_21 rfl rfl ?_
    obtain ⟨a52, ha52, hf⟩ := dr_e hf
    obtain ⟨hT53, hf⟩ := ck_e hf
    obtain ⟨hg54, hf⟩ := ck_e hf
    refine g_iast X dX12_draw_22 ha52 hT53 hg54 ?_
    obtain ⟨M55, hM55, hf⟩ := lw_e hf
    rw [← hM55]
    have hT56 : mT M55 x0 = 11 := by rw [hM55]; exact hT46
    have hT57 : mT M55 a47 = 13 := by rw [hM55]; exact hT48
    have hT58 : mT M55 a49 = 12 := by rw [hM55]; exact hT50
    have hT59 : mT M55 a52 = 20 := by rw [hM55]; exact hT53
    refine g_iinc (v := (1 : Int32)) (lv' := [(1, vI (x1 + (1 : Int32))), (0, vR (some x0))]) X dX12_draw_23 rfl (by decide) (by decide) rfl ?_
    refine g_goto (tgt := 2) X dX12_draw_26 (by decide) ?_
    cases hf
    refine g_sub (lvsub_of _ _ [1, 0] rfl) ?_
    exact hK
set_option maxHeartbeats 4000000 in
set_option maxRecDepth 100000 in
theorem tl_X12_draw_2 (X : gX p s m args meth c D cy B (gSt Z B H0) RX12 cX12_draw wsX12_draw 4) (hr : meth.sig.returnType = none) {Q : State → Prop} : ∀ (M : gMem) (x0 : Nat) (x1 : Int32) (z : Unit × gMem), lp_X12_draw_2 M x0 x1 = some z → (fun (r : Unit × gMem) => Q = gMQ below D cy B H0 args s 0 0 none r.2) z → gGo p l e rX12_draw s m args below meth c D cy B H0 4 0 0 Q 2 [(0, vR (some x0)), (1, vI x1)] [] M := by
  intro M x0 x1 z hf hK
  refine lp_ind (P := (fun (q : gMem × Int32) (z : Unit × gMem) => (fun (r : Unit × gMem) => Q = gMQ below D cy B H0 args s 0 0 none r.2) z → gGo p l e rX12_draw s m args below meth c D cy B H0 4 0 0 Q 2 [(0, vR (some x0)), (1, vI q.2)] [] q.1)) (fun q z hq => ?_) _ _ hf hK
  intro hK
  obtain ⟨w, hw, hm⟩ := hq
  refine tb_X12_draw_2 X hr _ _ _ w hw ?_
  cases w with
  | inl a => exact hm hK
  | inr b => cases hm; exact hK
set_option maxHeartbeats 4000000 in
set_option maxRecDepth 100000 in
theorem t_X12_draw_0 (X : gX p s m args meth c D cy B (gSt Z B H0) RX12 cX12_draw wsX12_draw 4) (hr : meth.sig.returnType = none) {Q : State → Prop} : ∀ (M : gMem) (x0 : Nat) (z : Unit × gMem), b_X12_draw_0 M x0 = some z → (fun (r : Unit × gMem) => Q = gMQ below D cy B H0 args s 0 0 none r.2) z → gGo p l e rX12_draw s m args below meth c D cy B H0 4 0 0 Q 0 [(0, vR (some x0))] [] M := by
  intro M x0 z hf hK
  unfold b_X12_draw_0 at hf
  refine g_iconst (v := (0 : Int32)) X dX12_draw_0 (by decide) ?_
  refine g_istore_n (lv' := [(1, vI (0 : Int32)), (0, vR (some x0))]) X dX12_draw_1 rfl (by decide) rfl ?_
  refine g_sub (lvsub_of _ _ [1, 0] rfl) ?_
  exact tl_X12_draw_2 X hr _ _ _ _ hf hK
set_option maxHeartbeats 4000000 in
set_option maxRecDepth 100000 in
theorem m_X12_draw (l : Launch) {D : va_G} {cy : Nat → ClassId} {B : Nat} {H0 : Heap} {Z : Nat → Nat} {M M1 : gMem} {x0 : Nat} {r : Unit} (hf : f_X12_draw M x0 = some (r, M1)) : Met l yX12_draw wsX12_draw rX12_draw (va_Pc (Value.ref x0 :: List.map gv []) (gPre D cy B H0 (gSt Z B H0) M)) (gQ D cy B H0 none M1) 0 0 (gA B) := by
  refine Met.ofW (cc := cX12_draw) (maxL := 4) (ret := none) (by decide) rfl ?_
  intro p e s m args below meth c s₁ Bd hml hv
  obtain ⟨rfl, hW, hKK, hFs⟩ := hv
  have X : gX p s m _ meth c D cy B (gSt Z B H0) RX12 cX12_draw wsX12_draw 4 := ⟨Bd.exec, Bd.bytes, atoms_spec (ws := wsX12_draw) Bd.pre, findClass_of_methodNamed Bd.named, hml, hKK, by rw [hW.1]; exact hW.2.1, Bd.notSynchronized, hFs⟩
  have hr := Bd.returns
  have hl := lv_entry ([.ref x0]) (n := 4) (Nat.le_of_ble_eq_true rfl)
  show W p l e rX12_draw s m _ below meth c s.heap [] 0 0 _ (entryFrame m ([.ref x0] : List Value).toArray 4)
  rw [lg_entry_eq]
  generalize (lg_sl ([.ref x0]) ++ List.replicate (4 - (lg_sl ([.ref x0])).length) Slot.unset).toArray = ls at hl ⊢
  have hl : lv_has ls 4 (List.map gq [(0, vR (some x0))]) := hl
  exact t_X12_draw_0 X hr _ _ _ hf rfl s.heap [] ls hW va_S.rf (lv_has_sub hl (lvsub_of _ _ [0] rfl))
end
