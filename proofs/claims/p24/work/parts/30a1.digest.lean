section
variable {p : Program} {l : Launch} {e : Env} {s : State} {m : MethodId} {args : Array Value} {below : List Frame} {meth : Method} {c : Code} {D : va_G} {cy : Nat → ClassId} {B : Nat} {H0 : Heap} {Z : Nat → Nat}
/-! ## TideLots.checkGround(I)V -/
theorem k_X11_checkGround_n_f19 : Cond.fieldLink RX11 19 "TideLots" "shore" "LTideLots$Shore;" ∈ wsX11_checkGround := by decide +kernel
theorem i_X11_checkGround_n_X11 : ∀ w ∈ u_ws RX11 TX11 4, w ∈ wsX11_checkGround := by decide +kernel
theorem k_X11_checkGround_n_f68 : Cond.fieldLink RX11 68 "TideLots$Shore" "groundCount" "I" ∈ wsX11_checkGround := by decide +kernel
theorem i_X11_checkGround_n_X7 : ∀ w ∈ u_ws RX7 TX7 17, w ∈ wsX11_checkGround := by decide +kernel
abbrev rX11_checkGround_n : Room := { frames := 0, cells := 0, slots := 0, locals := 0 }
noncomputable def b_X11_checkGround_n_15 (M : gMem)  : Option (Unit × gMem) :=
  none
noncomputable def b_X11_checkGround_n_0 (M : gMem) (x0 : Nat) (x1 : Int32) : Option (Unit × gMem) :=
  (if x1 < 0 then none else ck (mT M x0 = 10) <| dr ((mR M x0 1)) fun a2 => ck (mT M a2 = 7) <| (if x1 < (mI M a2 2) then some ((), M) else none))
noncomputable def f_X11_checkGround_n (M : gMem) (x0 : Nat) (x1 : Int32) : Option (Unit × gMem) :=
  b_X11_checkGround_n_0 M x0 x1
set_option maxHeartbeats 4000000 in
set_option maxRecDepth 100000 in
theorem t_X11_checkGround_n_15 (X : gX p s m args meth c D cy B (gSt Z B H0) RX11 cX11_checkGround wsX11_checkGround 2) (hr : meth.sig.returnType = none) {Q : State → Prop} : ∀ (M : gMem)  (z : Unit × gMem), b_X11_checkGround_n_15 M  = some z → (fun (r : Unit × gMem) => Q = gMQ below D cy B H0 args s 0 0 none r.2) z → gGo p l e rX11_checkGround_n s m args below meth c D cy B H0 2 0 0 Q 15 [] [] M := by
  intro M  z hf hK
  unfold b_X11_checkGround_n_15 at hf
  cases hf
set_option maxHeartbeats 4000000 in
set_option maxRecDepth 100000 in
theorem t_X11_checkGround_n_0 (X : gX p s m args meth c D cy B (gSt Z B H0) RX11 cX11_checkGround wsX11_checkGround 2) (hr : meth.sig.returnType = none) {Q : State → Prop} : ∀ (M : gMem) (x0 : Nat) (x1 : Int32) (z : Unit × gMem), b_X11_checkGround_n_0 M x0 x1 = some z → (fun (r : Unit × gMem) => Q = gMQ below D cy B H0 args s 0 0 none r.2) z → gGo p l e rX11_checkGround_n s m args below meth c D cy B H0 2 0 0 Q 0 [(0, vR (some x0)), (1, vI x1)] [] M := by
  intro M x0 x1 z hf hK
  unfold b_X11_checkGround_n_0 at hf
  refine g_iload_n X dX11_checkGround_0 rfl rfl ?_
  refine g_if_lt (tgt := 15) X dX11_checkGround_1 (by decide) (fun hc => ?_) (fun hc => ?_)
  · have hf := ife_t hc hf
    cases hf
  · have hf := ife_f hc hf
    refine g_iload_n X dX11_checkGround_4 rfl rfl ?_
    refine g_aload_n X dX11_checkGround_5 rfl rfl ?_
    obtain ⟨hT1, hf⟩ := ck_e hf
    refine g_get (ci := 9) (v := vR (mR M x0 1)) 1 X cdX11 i_X11_checkGround_n_X11 (by decide) k_X11_checkGround_n_f19 rfl dX11_checkGround_6 rfl hT1 rfl ?_
    obtain ⟨a2, ha2, hf⟩ := dr_e hf
    obtain ⟨hT3, hf⟩ := ck_e hf
    refine g_get (ci := 6) (v := vI (mI M a2 2)) 2 X cdX7 i_X11_checkGround_n_X7 (by decide) k_X11_checkGround_n_f68 rfl dX11_checkGround_9 ha2 hT3 rfl ?_
    refine g_icmp_lt (tgt := 25) X dX11_checkGround_12 (by decide) (fun hc => ?_) (fun hc => ?_)
    · have hf := ife_t hc hf
      cases hf
      refine g_eqQ hK ?_
      exact g_vret X hr dX11_checkGround_25
    · have hf := ife_f hc hf
      cases hf
set_option maxHeartbeats 4000000 in
set_option maxRecDepth 100000 in
theorem m_X11_checkGround_n (l : Launch) {D : va_G} {cy : Nat → ClassId} {B : Nat} {H0 : Heap} {Z : Nat → Nat} {M M1 : gMem} {x0 : Nat} {x1 : Int32} {r : Unit} (hf : f_X11_checkGround_n M x0 x1 = some (r, M1)) : Met l yX11_checkGround wsX11_checkGround rX11_checkGround_n (va_Pc (Value.ref x0 :: List.map gv [vI x1]) (gPre D cy B H0 (gSt Z B H0) M)) (gQ D cy B H0 none M1) 0 0 (gA B) := by
  refine Met.ofW (cc := cX11_checkGround) (maxL := 2) (ret := none) (by decide) rfl ?_
  intro p e s m args below meth c s₁ Bd hml hv
  obtain ⟨rfl, hW, hKK, hFs⟩ := hv
  have X : gX p s m _ meth c D cy B (gSt Z B H0) RX11 cX11_checkGround wsX11_checkGround 2 := ⟨Bd.exec, Bd.bytes, atoms_spec (ws := wsX11_checkGround) Bd.pre, findClass_of_methodNamed Bd.named, hml, hKK, by rw [hW.1]; exact hW.2.1, Bd.notSynchronized, hFs⟩
  have hr := Bd.returns
  have hl := lv_entry ([.ref x0, .int x1]) (n := 2) (Nat.le_of_ble_eq_true rfl)
  show W p l e rX11_checkGround_n s m _ below meth c s.heap [] 0 0 _ (entryFrame m ([.ref x0, .int x1] : List Value).toArray 2)
  rw [lg_entry_eq]
  generalize (lg_sl ([.ref x0, .int x1]) ++ List.replicate (2 - (lg_sl ([.ref x0, .int x1])).length) Slot.unset).toArray = ls at hl ⊢
  have hl : lv_has ls 2 (List.map gq [(0, vR (some x0)), (1, vI x1)]) := hl
  exact t_X11_checkGround_n_0 X hr _ _ _ _ hf rfl s.heap [] ls hW va_S.rf (lv_has_sub hl (lvsub_of _ _ [0, 1] rfl))
/-! ## TideLots.checkFisher(I)V -/
theorem k_X11_checkFisher_n_f19 : Cond.fieldLink RX11 19 "TideLots" "shore" "LTideLots$Shore;" ∈ wsX11_checkFisher := by decide +kernel
theorem i_X11_checkFisher_n_X11 : ∀ w ∈ u_ws RX11 TX11 4, w ∈ wsX11_checkFisher := by decide +kernel
theorem k_X11_checkFisher_n_f71 : Cond.fieldLink RX11 71 "TideLots$Shore" "fisherCount" "I" ∈ wsX11_checkFisher := by decide +kernel
theorem i_X11_checkFisher_n_X7 : ∀ w ∈ u_ws RX7 TX7 17, w ∈ wsX11_checkFisher := by decide +kernel
abbrev rX11_checkFisher_n : Room := { frames := 0, cells := 0, slots := 0, locals := 0 }
noncomputable def b_X11_checkFisher_n_15 (M : gMem)  : Option (Unit × gMem) :=
  none
noncomputable def b_X11_checkFisher_n_0 (M : gMem) (x0 : Nat) (x1 : Int32) : Option (Unit × gMem) :=
  (if x1 < 0 then none else ck (mT M x0 = 10) <| dr ((mR M x0 1)) fun a2 => ck (mT M a2 = 7) <| (if x1 < (mI M a2 3) then some ((), M) else none))
noncomputable def f_X11_checkFisher_n (M : gMem) (x0 : Nat) (x1 : Int32) : Option (Unit × gMem) :=
  b_X11_checkFisher_n_0 M x0 x1
set_option maxHeartbeats 4000000 in
set_option maxRecDepth 100000 in
theorem t_X11_checkFisher_n_15 (X : gX p s m args meth c D cy B (gSt Z B H0) RX11 cX11_checkFisher wsX11_checkFisher 2) (hr : meth.sig.returnType = none) {Q : State → Prop} : ∀ (M : gMem)  (z : Unit × gMem), b_X11_checkFisher_n_15 M  = some z → (fun (r : Unit × gMem) => Q = gMQ below D cy B H0 args s 0 0 none r.2) z → gGo p l e rX11_checkFisher_n s m args below meth c D cy B H0 2 0 0 Q 15 [] [] M := by
  intro M  z hf hK
  unfold b_X11_checkFisher_n_15 at hf
  cases hf
set_option maxHeartbeats 4000000 in
set_option maxRecDepth 100000 in
theorem t_X11_checkFisher_n_0 (X : gX p s m args meth c D cy B (gSt Z B H0) RX11 cX11_checkFisher wsX11_checkFisher 2) (hr : meth.sig.returnType = none) {Q : State → Prop} : ∀ (M : gMem) (x0 : Nat) (x1 : Int32) (z : Unit × gMem), b_X11_checkFisher_n_0 M x0 x1 = some z → (fun (r : Unit × gMem) => Q = gMQ below D cy B H0 args s 0 0 none r.2) z → gGo p l e rX11_checkFisher_n s m args below meth c D cy B H0 2 0 0 Q 0 [(0, vR (some x0)), (1, vI x1)] [] M := by
  intro M x0 x1 z hf hK
  unfold b_X11_checkFisher_n_0 at hf
  refine g_iload_n X dX11_checkFisher_0 rfl rfl ?_
  refine g_if_lt (tgt := 15) X dX11_checkFisher_1 (by decide) (fun hc => ?_) (fun hc => ?_)
  · have hf := ife_t hc hf
    cases hf
  · have hf := ife_f hc hf
    refine g_iload_n X dX11_checkFisher_4 rfl rfl ?_
    refine g_aload_n X dX11_checkFisher_5 rfl rfl ?_
    obtain ⟨hT1, hf⟩ := ck_e hf
    refine g_get (ci := 9) (v := vR (mR M x0 1)) 1 X cdX11 i_X11_checkFisher_n_X11 (by decide) k_X11_checkFisher_n_f19 rfl dX11_checkFisher_6 rfl hT1 rfl ?_
    obtain ⟨a2, ha2, hf⟩ := dr_e hf
    obtain ⟨hT3, hf⟩ := ck_e hf
    refine g_get (ci := 6) (v := vI (mI M a2 3)) 3 X cdX7 i_X11_checkFisher_n_X7 (by decide) k_X11_checkFisher_n_f71 rfl dX11_checkFisher_9 ha2 hT3 rfl ?_
    refine g_icmp_lt (tgt := 25) X dX11_checkFisher_12 (by decide) (fun hc => ?_) (fun hc => ?_)
    · have hf := ife_t hc hf
      cases hf
      refine g_eqQ hK ?_
      exact g_vret X hr dX11_checkFisher_25
    · have hf := ife_f hc hf
      cases hf
set_option maxHeartbeats 4000000 in
set_option maxRecDepth 100000 in
theorem m_X11_checkFisher_n (l : Launch) {D : va_G} {cy : Nat → ClassId} {B : Nat} {H0 : Heap} {Z : Nat → Nat} {M M1 : gMem} {x0 : Nat} {x1 : Int32} {r : Unit} (hf : f_X11_checkFisher_n M x0 x1 = some (r, M1)) : Met l yX11_checkFisher wsX11_checkFisher rX11_checkFisher_n (va_Pc (Value.ref x0 :: List.map gv [vI x1]) (gPre D cy B H0 (gSt Z B H0) M)) (gQ D cy B H0 none M1) 0 0 (gA B) := by
  refine Met.ofW (cc := cX11_checkFisher) (maxL := 2) (ret := none) (by decide) rfl ?_
  intro p e s m args below meth c s₁ Bd hml hv
  obtain ⟨rfl, hW, hKK, hFs⟩ := hv
  have X : gX p s m _ meth c D cy B (gSt Z B H0) RX11 cX11_checkFisher wsX11_checkFisher 2 := ⟨Bd.exec, Bd.bytes, atoms_spec (ws := wsX11_checkFisher) Bd.pre, findClass_of_methodNamed Bd.named, hml, hKK, by rw [hW.1]; exact hW.2.1, Bd.notSynchronized, hFs⟩
  have hr := Bd.returns
  have hl := lv_entry ([.ref x0, .int x1]) (n := 2) (Nat.le_of_ble_eq_true rfl)
  show W p l e rX11_checkFisher_n s m _ below meth c s.heap [] 0 0 _ (entryFrame m ([.ref x0, .int x1] : List Value).toArray 2)
  rw [lg_entry_eq]
  generalize (lg_sl ([.ref x0, .int x1]) ++ List.replicate (2 - (lg_sl ([.ref x0, .int x1])).length) Slot.unset).toArray = ls at hl ⊢
  have hl : lv_has ls 2 (List.map gq [(0, vR (some x0)), (1, vI x1)]) := hl
  exact t_X11_checkFisher_n_0 X hr _ _ _ _ hf rfl s.heap [] ls hW va_S.rf (lv_has_sub hl (lvsub_of _ _ [0, 1] rfl))
/-! ## TideLots.count(I)I -/
theorem k_X11_count_n_f19 : Cond.fieldLink RX11 19 "TideLots" "shore" "LTideLots$Shore;" ∈ wsX11_count := by decide +kernel
theorem i_X11_count_n_X11 : ∀ w ∈ u_ws RX11 TX11 4, w ∈ wsX11_count := by decide +kernel
theorem k_X11_count_n_f62 : Cond.fieldLink RX11 62 "TideLots$Shore" "tide" "I" ∈ wsX11_count := by decide +kernel
theorem i_X11_count_n_X7 : ∀ w ∈ u_ws RX7 TX7 17, w ∈ wsX11_count := by decide +kernel
theorem k_X11_count_n_f68 : Cond.fieldLink RX11 68 "TideLots$Shore" "groundCount" "I" ∈ wsX11_count := by decide +kernel
theorem k_X11_count_n_f71 : Cond.fieldLink RX11 71 "TideLots$Shore" "fisherCount" "I" ∈ wsX11_count := by decide +kernel
theorem k_X11_count_n_f74 : Cond.fieldLink RX11 74 "TideLots$Shore" "goCount" "I" ∈ wsX11_count := by decide +kernel
theorem k_X11_count_n_f77 : Cond.fieldLink RX11 77 "TideLots$Shore" "pactCount" "I" ∈ wsX11_count := by decide +kernel
theorem k_X11_count_n_f10 : Cond.fieldLink RX11 10 "TideLots" "tape" "LTideLots$Tape;" ∈ wsX11_count := by decide +kernel
theorem k_X11_count_n_f30 : Cond.fieldLink RX11 30 "TideLots$Tape" "length" "I" ∈ wsX11_count := by decide +kernel
theorem i_X11_count_n_X10 : ∀ w ∈ u_ws RX10 TX10 6, w ∈ wsX11_count := by decide +kernel
abbrev rX11_count_n : Room := { frames := 2, cells := 0, slots := 0, locals := 44 }
noncomputable def b_X11_count_n_0 (M : gMem) (x0 : Nat) (x1 : Int32) : Option (Int32 × gMem) :=
  (if x1 = (0 : Int32) then ck (mT M x0 = 10) <| dr ((mR M x0 1)) fun a3 => ck (mT M a3 = 7) <| some ((mI M a3 0), M) else (if x1 = (1 : Int32) then ck (mT M x0 = 10) <| dr ((mR M x0 1)) fun a7 => ck (mT M a7 = 7) <| some ((mI M a7 2), M) else (if x1 = (2 : Int32) then ck (mT M x0 = 10) <| dr ((mR M x0 1)) fun a11 => ck (mT M a11 = 7) <| some ((mI M a11 3), M) else (if x1 = (3 : Int32) then ck (mT M x0 = 10) <| dr ((mR M x0 1)) fun a15 => ck (mT M a15 = 7) <| some ((mI M a15 4), M) else (if x1 = (4 : Int32) then ck (mT M x0 = 10) <| dr ((mR M x0 1)) fun a19 => ck (mT M a19 = 7) <| some ((mI M a19 5), M) else (if x1 = (5 : Int32) then ck (mT M x0 = 10) <| dr ((mR M x0 1)) fun a24 => ck (mT M a24 = 7) <| bd (f_X7_allFish M a24) fun r23 M23 => some (r23, M23) else (if x1 = (6 : Int32) then ck (mT M x0 = 10) <| dr ((mR M x0 1)) fun a29 => ck (mT M a29 = 7) <| bd (f_X7_allStores M a29) fun r28 M28 => some (r28, M28) else (if x1 = (7 : Int32) then ck (mT M x0 = 10) <| dr ((mR M x0 1)) fun a34 => ck (mT M a34 = 7) <| bd (f_X7_widenedNets M a34) fun r33 M33 => some (r33, M33) else (if x1 = (8 : Int32) then ck (mT M x0 = 10) <| dr ((mR M x0 1)) fun a39 => ck (mT M a39 = 7) <| bd (f_X7_allCheats M a39) fun r38 M38 => some (r38, M38) else (if x1 = (9 : Int32) then ck (mT M x0 = 10) <| dr ((mR M x0 0)) fun a43 => ck (mT M a43 = 9) <| some ((mI M a43 0), M) else none))))))))))
noncomputable def f_X11_count_n (M : gMem) (x0 : Nat) (x1 : Int32) : Option (Int32 × gMem) :=
  b_X11_count_n_0 M x0 x1
set_option maxHeartbeats 4000000 in
set_option maxRecDepth 100000 in
theorem t_X11_count_n_0 (X : gX p s m args meth c D cy B (gSt Z B H0) RX11 cX11_count wsX11_count 2) (hr : meth.sig.returnType = (some .int)) {Q : State → Prop} : ∀ (M : gMem) (x0 : Nat) (x1 : Int32) (z : Int32 × gMem), b_X11_count_n_0 M x0 x1 = some z → (fun (r : Int32 × gMem) => Q = gMQ below D cy B H0 args s 0 0 (some (vI r.1)) r.2) z → gGo p l e rX11_count_n s m args below meth c D cy B H0 2 0 0 Q 0 [(0, vR (some x0)), (1, vI x1)] [] M := by
  intro M x0 x1 z hf hK
  unfold b_X11_count_n_0 at hf
  refine g_iload_n X dX11_count_0 rfl rfl ?_
  by_cases hs1 : x1 = (0 : Int32)
  · have hf := ife_t hs1 hf
    refine g_tabin (tgt := 56) X dX11_count_1 hs1 (by decide) (by decide) rfl (by decide) ?_
    refine g_aload_n X dX11_count_56 rfl rfl ?_
    obtain ⟨hT2, hf⟩ := ck_e hf
    refine g_get (ci := 9) (v := vR (mR M x0 1)) 1 X cdX11 i_X11_count_n_X11 (by decide) k_X11_count_n_f19 rfl dX11_count_57 rfl hT2 rfl ?_
    obtain ⟨a3, ha3, hf⟩ := dr_e hf
    obtain ⟨hT4, hf⟩ := ck_e hf
    refine g_get (ci := 6) (v := vI (mI M a3 0)) 0 X cdX7 i_X11_count_n_X7 (by decide) k_X11_count_n_f62 rfl dX11_count_60 ha3 hT4 rfl ?_
    cases hf
    refine g_eqQ hK ?_
    exact g_iret X hr dX11_count_63
  · have hf := ife_f hs1 hf
    by_cases hs5 : x1 = (1 : Int32)
    · have hf := ife_t hs5 hf
      refine g_tabin (tgt := 64) X dX11_count_1 hs5 (by decide) (by decide) rfl (by decide) ?_
      refine g_aload_n X dX11_count_64 rfl rfl ?_
      obtain ⟨hT6, hf⟩ := ck_e hf
      refine g_get (ci := 9) (v := vR (mR M x0 1)) 1 X cdX11 i_X11_count_n_X11 (by decide) k_X11_count_n_f19 rfl dX11_count_65 rfl hT6 rfl ?_
      obtain ⟨a7, ha7, hf⟩ := dr_e hf
      obtain ⟨hT8, hf⟩ := ck_e hf
      refine g_get (ci := 6) (v := vI (mI M a7 2)) 2 X cdX7 i_X11_count_n_X7 (by decide) k_X11_count_n_f68 rfl dX11_count_68 ha7 hT8 rfl ?_
      cases hf
      refine g_eqQ hK ?_
      exact g_iret X hr dX11_count_71
    · have hf := ife_f hs5 hf
      by_cases hs9 : x1 = (2 : Int32)
      · have hf := ife_t hs9 hf
        refine g_tabin (tgt := 72) X dX11_count_1 hs9 (by decide) (by decide) rfl (by decide) ?_
        refine g_aload_n X dX11_count_72 rfl rfl ?_
        obtain ⟨hT10, hf⟩ := ck_e hf
        refine g_get (ci := 9) (v := vR (mR M x0 1)) 1 X cdX11 i_X11_count_n_X11 (by decide) k_X11_count_n_f19 rfl dX11_count_73 rfl hT10 rfl ?_
        obtain ⟨a11, ha11, hf⟩ := dr_e hf
        obtain ⟨hT12, hf⟩ := ck_e hf
        refine g_get (ci := 6) (v := vI (mI M a11 3)) 3 X cdX7 i_X11_count_n_X7 (by decide) k_X11_count_n_f71 rfl dX11_count_76 ha11 hT12 rfl ?_
        cases hf
        refine g_eqQ hK ?_
        exact g_iret X hr dX11_count_79
      · have hf := ife_f hs9 hf
        by_cases hs13 : x1 = (3 : Int32)
        · have hf := ife_t hs13 hf
          refine g_tabin (tgt := 80) X dX11_count_1 hs13 (by decide) (by decide) rfl (by decide) ?_
          refine g_aload_n X dX11_count_80 rfl rfl ?_
          obtain ⟨hT14, hf⟩ := ck_e hf
          refine g_get (ci := 9) (v := vR (mR M x0 1)) 1 X cdX11 i_X11_count_n_X11 (by decide) k_X11_count_n_f19 rfl dX11_count_81 rfl hT14 rfl ?_
          obtain ⟨a15, ha15, hf⟩ := dr_e hf
          obtain ⟨hT16, hf⟩ := ck_e hf
          refine g_get (ci := 6) (v := vI (mI M a15 4)) 4 X cdX7 i_X11_count_n_X7 (by decide) k_X11_count_n_f74 rfl dX11_count_84 ha15 hT16 rfl ?_
          cases hf
          refine g_eqQ hK ?_
          exact g_iret X hr dX11_count_87
        · have hf := ife_f hs13 hf
          by_cases hs17 : x1 = (4 : Int32)
          · have hf := ife_t hs17 hf
            refine g_tabin (tgt := 88) X dX11_count_1 hs17 (by decide) (by decide) rfl (by decide) ?_
            refine g_aload_n X dX11_count_88 rfl rfl ?_
            obtain ⟨hT18, hf⟩ := ck_e hf
            refine g_get (ci := 9) (v := vR (mR M x0 1)) 1 X cdX11 i_X11_count_n_X11 (by decide) k_X11_count_n_f19 rfl dX11_count_89 rfl hT18 rfl ?_
            obtain ⟨a19, ha19, hf⟩ := dr_e hf
            obtain ⟨hT20, hf⟩ := ck_e hf
            refine g_get (ci := 6) (v := vI (mI M a19 5)) 5 X cdX7 i_X11_count_n_X7 (by decide) k_X11_count_n_f77 rfl dX11_count_92 ha19 hT20 rfl ?_
            cases hf
            refine g_eqQ hK ?_
            exact g_iret X hr dX11_count_95
          · have hf := ife_f hs17 hf
            by_cases hs21 : x1 = (5 : Int32)
            · have hf := ife_t hs21 hf
              refine g_tabin (tgt := 96) X dX11_count_1 hs21 (by decide) (by decide) rfl (by decide) ?_
              refine g_aload_n X dX11_count_96 rfl rfl ?_
              obtain ⟨hT22, hf⟩ := ck_e hf
              refine g_get (ci := 9) (v := vR (mR M x0 1)) 1 X cdX11 i_X11_count_n_X11 (by decide) k_X11_count_n_f19 rfl dX11_count_97 rfl hT22 rfl ?_
              obtain ⟨a24, ha24, hf⟩ := dr_e hf
              obtain ⟨hT25, hf⟩ := ck_e hf
              obtain ⟨r23, M23, hq23, hf⟩ := bd_e hf
              refine g_callV (ci := 6) (b := a24) (As := []) (st := []) (v := some (vI r23)) (M1 := M23) X (m_X7_allFish l hq23) (cwV 0 X.2.2.1 gX11_count_X7_allFish rfl rfl rfl (by decide +kernel) ⟨Nat.le_of_ble_eq_true rfl, Nat.le_of_ble_eq_true rfl⟩) rfl rfl ha24 hT25 (by decide) rfl (Nat.le_of_ble_eq_true rfl) dX11_count_100 ⟨by decide, by decide⟩ ?_
              cases hf
              refine g_eqQ hK ?_
              exact g_iret X hr dX11_count_103
            · have hf := ife_f hs21 hf
              by_cases hs26 : x1 = (6 : Int32)
              · have hf := ife_t hs26 hf
                refine g_tabin (tgt := 104) X dX11_count_1 hs26 (by decide) (by decide) rfl (by decide) ?_
                refine g_aload_n X dX11_count_104 rfl rfl ?_
                obtain ⟨hT27, hf⟩ := ck_e hf
                refine g_get (ci := 9) (v := vR (mR M x0 1)) 1 X cdX11 i_X11_count_n_X11 (by decide) k_X11_count_n_f19 rfl dX11_count_105 rfl hT27 rfl ?_
                obtain ⟨a29, ha29, hf⟩ := dr_e hf
                obtain ⟨hT30, hf⟩ := ck_e hf
                obtain ⟨r28, M28, hq28, hf⟩ := bd_e hf
                refine g_callV (ci := 6) (b := a29) (As := []) (st := []) (v := some (vI r28)) (M1 := M28) X (m_X7_allStores l hq28) (cwV 0 X.2.2.1 gX11_count_X7_allStores rfl rfl rfl (by decide +kernel) ⟨Nat.le_of_ble_eq_true rfl, Nat.le_of_ble_eq_true rfl⟩) rfl rfl ha29 hT30 (by decide) rfl (Nat.le_of_ble_eq_true rfl) dX11_count_108 ⟨by decide, by decide⟩ ?_
                cases hf
                refine g_eqQ hK ?_
                exact g_iret X hr dX11_count_111
              · have hf := ife_f hs26 hf
                by_cases hs31 : x1 = (7 : Int32)
                · have hf := ife_t hs31 hf
                  refine g_tabin (tgt := 112) X dX11_count_1 hs31 (by decide) (by decide) rfl (by decide) ?_
                  refine g_aload_n X dX11_count_112 rfl rfl ?_
                  obtain ⟨hT32, hf⟩ := ck_e hf
                  refine g_get (ci := 9) (v := vR (mR M x0 1)) 1 X cdX11 i_X11_count_n_X11 (by decide) k_X11_count_n_f19 rfl dX11_count_113 rfl hT32 rfl ?_
                  obtain ⟨a34, ha34, hf⟩ := dr_e hf
                  obtain ⟨hT35, hf⟩ := ck_e hf
                  obtain ⟨r33, M33, hq33, hf⟩ := bd_e hf
                  refine g_callV (ci := 6) (b := a34) (As := []) (st := []) (v := some (vI r33)) (M1 := M33) X (m_X7_widenedNets l hq33) (cwV 0 X.2.2.1 gX11_count_X7_widenedNets rfl rfl rfl (by decide +kernel) ⟨Nat.le_of_ble_eq_true rfl, Nat.le_of_ble_eq_true rfl⟩) rfl rfl ha34 hT35 (by decide) rfl (Nat.le_of_ble_eq_true rfl) dX11_count_116 ⟨by decide, by decide⟩ ?_
                  cases hf
                  refine g_eqQ hK ?_
                  exact g_iret X hr dX11_count_119
                · have hf := ife_f hs31 hf
                  by_cases hs36 : x1 = (8 : Int32)
                  · have hf := ife_t hs36 hf
                    refine g_tabin (tgt := 120) X dX11_count_1 hs36 (by decide) (by decide) rfl (by decide) ?_
                    refine g_aload_n X dX11_count_120 rfl rfl ?_
                    obtain ⟨hT37, hf⟩ := ck_e hf
                    refine g_get (ci := 9) (v := vR (mR M x0 1)) 1 X cdX11 i_X11_count_n_X11 (by decide) k_X11_count_n_f19 rfl dX11_count_121 rfl hT37 rfl ?_
                    obtain ⟨a39, ha39, hf⟩ := dr_e hf
                    obtain ⟨hT40, hf⟩ := ck_e hf
                    obtain ⟨r38, M38, hq38, hf⟩ := bd_e hf
                    refine g_callV (ci := 6) (b := a39) (As := []) (st := []) (v := some (vI r38)) (M1 := M38) X (m_X7_allCheats l hq38) (cwV 0 X.2.2.1 gX11_count_X7_allCheats rfl rfl rfl (by decide +kernel) ⟨Nat.le_of_ble_eq_true rfl, Nat.le_of_ble_eq_true rfl⟩) rfl rfl ha39 hT40 (by decide) rfl (Nat.le_of_ble_eq_true rfl) dX11_count_124 ⟨by decide, by decide⟩ ?_
                    cases hf
                    refine g_eqQ hK ?_
                    exact g_iret X hr dX11_count_127
                  · have hf := ife_f hs36 hf
                    by_cases hs41 : x1 = (9 : Int32)
                    · have hf := ife_t hs41 hf
                      refine g_tabin (tgt := 128) X dX11_count_1 hs41 (by decide) (by decide) rfl (by decide) ?_
                      refine g_aload_n X dX11_count_128 rfl rfl ?_
                      obtain ⟨hT42, hf⟩ := ck_e hf
                      refine g_get (ci := 9) (v := vR (mR M x0 0)) 0 X cdX11 i_X11_count_n_X11 (by decide) k_X11_count_n_f10 rfl dX11_count_129 rfl hT42 rfl ?_
                      obtain ⟨a43, ha43, hf⟩ := dr_e hf
                      obtain ⟨hT44, hf⟩ := ck_e hf
                      refine g_get (ci := 8) (v := vI (mI M a43 0)) 0 X cdX10 i_X11_count_n_X10 (by decide) k_X11_count_n_f30 rfl dX11_count_132 ha43 hT44 rfl ?_
                      cases hf
                      refine g_eqQ hK ?_
                      exact g_iret X hr dX11_count_135
                    · have hf := ife_f hs41 hf
                      refine g_tabout (tgt := 136) X dX11_count_1 (gtab_out 10 (0) (by decide) (by decide) (fun i hi => match i, hi with | 0, _ => fun e => hs1 (e.trans (by decide)) | 1, _ => fun e => hs5 (e.trans (by decide)) | 2, _ => fun e => hs9 (e.trans (by decide)) | 3, _ => fun e => hs13 (e.trans (by decide)) | 4, _ => fun e => hs17 (e.trans (by decide)) | 5, _ => fun e => hs21 (e.trans (by decide)) | 6, _ => fun e => hs26 (e.trans (by decide)) | 7, _ => fun e => hs31 (e.trans (by decide)) | 8, _ => fun e => hs36 (e.trans (by decide)) | 9, _ => fun e => hs41 (e.trans (by decide)) | i + 10, h => absurd h (by omega))) (by decide) ?_
                      cases hf
set_option maxHeartbeats 4000000 in
set_option maxRecDepth 100000 in
theorem m_X11_count_n (l : Launch) {D : va_G} {cy : Nat → ClassId} {B : Nat} {H0 : Heap} {Z : Nat → Nat} {M M1 : gMem} {x0 : Nat} {x1 : Int32} {r : Int32} (hf : f_X11_count_n M x0 x1 = some (r, M1)) : Met l yX11_count wsX11_count rX11_count_n (va_Pc (Value.ref x0 :: List.map gv [vI x1]) (gPre D cy B H0 (gSt Z B H0) M)) (gQ D cy B H0 (some (vI r)) M1) 0 0 (gA B) := by
  refine Met.ofW (cc := cX11_count) (maxL := 2) (ret := (some .int)) (by decide) rfl ?_
  intro p e s m args below meth c s₁ Bd hml hv
  obtain ⟨rfl, hW, hKK, hFs⟩ := hv
  have X : gX p s m _ meth c D cy B (gSt Z B H0) RX11 cX11_count wsX11_count 2 := ⟨Bd.exec, Bd.bytes, atoms_spec (ws := wsX11_count) Bd.pre, findClass_of_methodNamed Bd.named, hml, hKK, by rw [hW.1]; exact hW.2.1, Bd.notSynchronized, hFs⟩
  have hr := Bd.returns
  have hl := lv_entry ([.ref x0, .int x1]) (n := 2) (Nat.le_of_ble_eq_true rfl)
  show W p l e rX11_count_n s m _ below meth c s.heap [] 0 0 _ (entryFrame m ([.ref x0, .int x1] : List Value).toArray 2)
  rw [lg_entry_eq]
  generalize (lg_sl ([.ref x0, .int x1]) ++ List.replicate (2 - (lg_sl ([.ref x0, .int x1])).length) Slot.unset).toArray = ls at hl ⊢
  have hl : lv_has ls 2 (List.map gq [(0, vR (some x0)), (1, vI x1)]) := hl
  exact t_X11_count_n_0 X hr _ _ _ _ hf rfl s.heap [] ls hW va_S.rf (lv_has_sub hl (lvsub_of _ _ [0, 1] rfl))
/-! ## TideLots.ground(II)I -/
theorem k_X11_ground_n_f107 : Cond.fieldLink RX11 107 "TideLots$Ground" "fish" "[I" ∈ wsX11_ground := by decide +kernel
theorem i_X11_ground_n_X3 : ∀ w ∈ u_ws RX3 TX3 4, w ∈ wsX11_ground := by decide +kernel
theorem k_X11_ground_n_f19 : Cond.fieldLink RX11 19 "TideLots" "shore" "LTideLots$Shore;" ∈ wsX11_ground := by decide +kernel
theorem i_X11_ground_n_X11 : ∀ w ∈ u_ws RX11 TX11 4, w ∈ wsX11_ground := by decide +kernel
theorem k_X11_ground_n_f100 : Cond.fieldLink RX11 100 "TideLots$Shore" "grounds" "[LTideLots$Ground;" ∈ wsX11_ground := by decide +kernel
theorem i_X11_ground_n_X7 : ∀ w ∈ u_ws RX7 TX7 17, w ∈ wsX11_ground := by decide +kernel
theorem k_X11_ground_n_f111 : Cond.fieldLink RX11 111 "TideLots$Ground" "room" "I" ∈ wsX11_ground := by decide +kernel
theorem k_X11_ground_n_f114 : Cond.fieldLink RX11 114 "TideLots$Ground" "boats" "I" ∈ wsX11_ground := by decide +kernel
theorem k_X11_ground_n_f117 : Cond.fieldLink RX11 117 "TideLots$Ground" "caught" "I" ∈ wsX11_ground := by decide +kernel
abbrev rX11_ground_n : Room := { frames := 1, cells := 0, slots := 0, locals := 22 }
noncomputable def b_X11_ground_n_73 (M : gMem) (x2 : Int32) (x3 : Option Nat) : Option (Int32 × gMem) :=
  dr x3 fun a1 => ck (mT M a1 = 3) <| dr ((mR M a1 3)) fun a3 => ck (mT M a3 = 20) <| ck (inb x2 (mL M a3)) <| some ((mI M a3 x2.toNatClampNeg), M)
noncomputable def b_X11_ground_n_0 (M : gMem) (x0 : Nat) (x1 : Int32) (x2 : Int32) : Option (Int32 × gMem) :=
  ck (mT M x0 = 10) <| bd (f_X11_checkGround_n M x0 x1) fun _ M6 => ck (mT M6 x0 = 10) <| dr ((mR M6 x0 1)) fun a9 => ck (mT M6 a9 = 7) <| dr ((mR M6 a9 6)) fun a11 => ck (mT M6 a11 = 23) <| ck (inb x1 (mL M6 a11)) <| (if x2 = (0 : Int32) then dr ((mR M6 a11 x1.toNatClampNeg)) fun a16 => ck (mT M6 a16 = 3) <| bd (f_X3_allFish M6 a16) fun r15 M15 => some (r15, M15) else (if x2 = (1 : Int32) then b_X11_ground_n_73 M6 x2 ((mR M6 a11 x1.toNatClampNeg)) else (if x2 = (2 : Int32) then b_X11_ground_n_73 M6 x2 ((mR M6 a11 x1.toNatClampNeg)) else (if x2 = (3 : Int32) then b_X11_ground_n_73 M6 x2 ((mR M6 a11 x1.toNatClampNeg)) else (if x2 = (4 : Int32) then b_X11_ground_n_73 M6 x2 ((mR M6 a11 x1.toNatClampNeg)) else (if x2 = (5 : Int32) then b_X11_ground_n_73 M6 x2 ((mR M6 a11 x1.toNatClampNeg)) else (if x2 = (6 : Int32) then dr ((mR M6 a11 x1.toNatClampNeg)) fun a24 => ck (mT M6 a24 = 3) <| some ((mI M6 a24 0), M6) else (if x2 = (7 : Int32) then dr ((mR M6 a11 x1.toNatClampNeg)) fun a27 => ck (mT M6 a27 = 3) <| some ((mI M6 a27 1), M6) else (if x2 = (8 : Int32) then dr ((mR M6 a11 x1.toNatClampNeg)) fun a30 => ck (mT M6 a30 = 3) <| some ((mI M6 a30 2), M6) else none)))))))))
noncomputable def f_X11_ground_n (M : gMem) (x0 : Nat) (x1 : Int32) (x2 : Int32) : Option (Int32 × gMem) :=
  b_X11_ground_n_0 M x0 x1 x2
set_option maxHeartbeats 4000000 in
set_option maxRecDepth 100000 in
theorem t_X11_ground_n_73 (X : gX p s m args meth c D cy B (gSt Z B H0) RX11 cX11_ground wsX11_ground 4) (hr : meth.sig.returnType = (some .int)) {Q : State → Prop} : ∀ (M : gMem) (x2 : Int32) (x3 : Option Nat) (z : Int32 × gMem), b_X11_ground_n_73 M x2 x3 = some z → (fun (r : Int32 × gMem) => Q = gMQ below D cy B H0 args s 0 0 (some (vI r.1)) r.2) z → gGo p l e rX11_ground_n s m args below meth c D cy B H0 4 0 0 Q 73 [(2, vI x2), (3, vR x3)] [] M := by
  intro M x2 x3 z hf hK
  unfold b_X11_ground_n_73 at hf
  refine g_aload_n X dX11_ground_73 rfl rfl ?_
  obtain ⟨a1, ha1, hf⟩ := dr_e hf
  obtain ⟨hT2, hf⟩ := ck_e hf
  refine g_get (ci := 2) (v := vR (mR M a1 3)) 3 X cdX3 i_X11_ground_n_X3 (by decide) k_X11_ground_n_f107 rfl dX11_ground_74 ha1 hT2 rfl ?_
  refine g_iload_n X dX11_ground_77 rfl rfl ?_
  obtain ⟨a3, ha3, hf⟩ := dr_e hf
  obtain ⟨hT4, hf⟩ := ck_e hf
  obtain ⟨hg5, hf⟩ := ck_e hf
  refine g_iald X dX11_ground_78 ha3 hT4 hg5 ?_
  cases hf
  refine g_eqQ hK ?_
  exact g_iret X hr dX11_ground_79
set_option maxHeartbeats 4000000 in
set_option maxRecDepth 100000 in
theorem t_X11_ground_n_0 (X : gX p s m args meth c D cy B (gSt Z B H0) RX11 cX11_ground wsX11_ground 4) (hr : meth.sig.returnType = (some .int)) {Q : State → Prop} : ∀ (M : gMem) (x0 : Nat) (x1 : Int32) (x2 : Int32) (z : Int32 × gMem), b_X11_ground_n_0 M x0 x1 x2 = some z → (fun (r : Int32 × gMem) => Q = gMQ below D cy B H0 args s 0 0 (some (vI r.1)) r.2) z → gGo p l e rX11_ground_n s m args below meth c D cy B H0 4 0 0 Q 0 [(0, vR (some x0)), (1, vI x1), (2, vI x2)] [] M := by
  intro M x0 x1 x2 z hf hK
  unfold b_X11_ground_n_0 at hf
  refine g_aload_n X dX11_ground_0 rfl rfl ?_
  refine g_iload_n X dX11_ground_1 rfl rfl ?_
  obtain ⟨hT7, hf⟩ := ck_e hf
  obtain ⟨r6, M6, hq6, hf⟩ := bd_e hf
  refine g_callV (ci := 9) (b := x0) (As := [vI x1]) (st := []) (v := none) (M1 := M6) X (m_X11_checkGround_n l hq6) (cwV 1 X.2.2.1 gX11_ground_X11_checkGround rfl rfl rfl (by decide +kernel) ⟨Nat.le_of_ble_eq_true rfl, Nat.le_of_ble_eq_true rfl⟩) rfl rfl rfl hT7 (by decide) rfl (Nat.le_of_ble_eq_true rfl) dX11_ground_2 ⟨by decide, by decide⟩ ?_
  refine g_aload_n X dX11_ground_5 rfl rfl ?_
  obtain ⟨hT8, hf⟩ := ck_e hf
  refine g_get (ci := 9) (v := vR (mR M6 x0 1)) 1 X cdX11 i_X11_ground_n_X11 (by decide) k_X11_ground_n_f19 rfl dX11_ground_6 rfl hT8 rfl ?_
  obtain ⟨a9, ha9, hf⟩ := dr_e hf
  obtain ⟨hT10, hf⟩ := ck_e hf
  refine g_get (ci := 6) (v := vR (mR M6 a9 6)) 6 X cdX7 i_X11_ground_n_X7 (by decide) k_X11_ground_n_f100 rfl dX11_ground_9 ha9 hT10 rfl ?_
  refine g_iload_n X dX11_ground_12 rfl rfl ?_
  obtain ⟨a11, ha11, hf⟩ := dr_e hf
  obtain ⟨hT12, hf⟩ := ck_e hf
  obtain ⟨hg13, hf⟩ := ck_e hf
  refine g_aald (t0 := 3) X dX11_ground_13 ha11 hT12 (by decide) rfl hg13 ?_
  refine g_astore_n (lv' := [(3, vR (mR M6 a11 x1.toNatClampNeg)), (0, vR (some x0)), (1, vI x1), (2, vI x2)]) X dX11_ground_14 rfl (by decide) rfl ?_
  refine g_iload_n X dX11_ground_15 rfl rfl ?_
  by_cases hs14 : x2 = (0 : Int32)
  · have hf := ife_t hs14 hf
    refine g_tabin (tgt := 68) X dX11_ground_16 hs14 (by decide) (by decide) rfl (by decide) ?_
    refine g_aload_n X dX11_ground_68 rfl rfl ?_
    obtain ⟨a16, ha16, hf⟩ := dr_e hf
    obtain ⟨hT17, hf⟩ := ck_e hf
    obtain ⟨r15, M15, hq15, hf⟩ := bd_e hf
    refine g_callV (ci := 2) (b := a16) (As := []) (st := []) (v := some (vI r15)) (M1 := M15) X (m_X3_allFish l hq15) (cwV 0 X.2.2.1 gX11_ground_X3_allFish rfl rfl rfl (by decide +kernel) ⟨Nat.le_of_ble_eq_true rfl, Nat.le_of_ble_eq_true rfl⟩) rfl rfl ha16 hT17 (by decide) rfl (Nat.le_of_ble_eq_true rfl) dX11_ground_69 ⟨by decide, by decide⟩ ?_
    cases hf
    refine g_eqQ hK ?_
    exact g_iret X hr dX11_ground_72
  · have hf := ife_f hs14 hf
    by_cases hs18 : x2 = (1 : Int32)
    · have hf := ife_t hs18 hf
      refine g_tabin (tgt := 73) X dX11_ground_16 hs18 (by decide) (by decide) rfl (by decide) ?_
      refine g_sub (lvsub_of _ _ [3, 0] rfl) ?_
      exact t_X11_ground_n_73 X hr _ _ _ _ hf hK
    · have hf := ife_f hs18 hf
      by_cases hs19 : x2 = (2 : Int32)
      · have hf := ife_t hs19 hf
        refine g_tabin (tgt := 73) X dX11_ground_16 hs19 (by decide) (by decide) rfl (by decide) ?_
        refine g_sub (lvsub_of _ _ [3, 0] rfl) ?_
        exact t_X11_ground_n_73 X hr _ _ _ _ hf hK
      · have hf := ife_f hs19 hf
        by_cases hs20 : x2 = (3 : Int32)
        · have hf := ife_t hs20 hf
          refine g_tabin (tgt := 73) X dX11_ground_16 hs20 (by decide) (by decide) rfl (by decide) ?_
          refine g_sub (lvsub_of _ _ [3, 0] rfl) ?_
          exact t_X11_ground_n_73 X hr _ _ _ _ hf hK
        · have hf := ife_f hs20 hf
          by_cases hs21 : x2 = (4 : Int32)
          · have hf := ife_t hs21 hf
            refine g_tabin (tgt := 73) X dX11_ground_16 hs21 (by decide) (by decide) rfl (by decide) ?_
            refine g_sub (lvsub_of _ _ [3, 0] rfl) ?_
            exact t_X11_ground_n_73 X hr _ _ _ _ hf hK
          · have hf := ife_f hs21 hf
            by_cases hs22 : x2 = (5 : Int32)
            · have hf := ife_t hs22 hf
              refine g_tabin (tgt := 73) X dX11_ground_16 hs22 (by decide) (by decide) rfl (by decide) ?_
              refine g_sub (lvsub_of _ _ [3, 0] rfl) ?_
              exact t_X11_ground_n_73 X hr _ _ _ _ hf hK
            · have hf := ife_f hs22 hf
              by_cases hs23 : x2 = (6 : Int32)
              · have hf := ife_t hs23 hf
                refine g_tabin (tgt := 80) X dX11_ground_16 hs23 (by decide) (by decide) rfl (by decide) ?_
                refine g_aload_n X dX11_ground_80 rfl rfl ?_
                obtain ⟨a24, ha24, hf⟩ := dr_e hf
                obtain ⟨hT25, hf⟩ := ck_e hf
                refine g_get (ci := 2) (v := vI (mI M6 a24 0)) 0 X cdX3 i_X11_ground_n_X3 (by decide) k_X11_ground_n_f111 rfl dX11_ground_81 ha24 hT25 rfl ?_
                cases hf
                refine g_eqQ hK ?_
                exact g_iret X hr dX11_ground_84
              · have hf := ife_f hs23 hf
                by_cases hs26 : x2 = (7 : Int32)
                · have hf := ife_t hs26 hf
                  refine g_tabin (tgt := 85) X dX11_ground_16 hs26 (by decide) (by decide) rfl (by decide) ?_
                  refine g_aload_n X dX11_ground_85 rfl rfl ?_
                  obtain ⟨a27, ha27, hf⟩ := dr_e hf
                  obtain ⟨hT28, hf⟩ := ck_e hf
                  refine g_get (ci := 2) (v := vI (mI M6 a27 1)) 1 X cdX3 i_X11_ground_n_X3 (by decide) k_X11_ground_n_f114 rfl dX11_ground_86 ha27 hT28 rfl ?_
                  cases hf
                  refine g_eqQ hK ?_
                  exact g_iret X hr dX11_ground_89
                · have hf := ife_f hs26 hf
                  by_cases hs29 : x2 = (8 : Int32)
                  · have hf := ife_t hs29 hf
                    refine g_tabin (tgt := 90) X dX11_ground_16 hs29 (by decide) (by decide) rfl (by decide) ?_
                    refine g_aload_n X dX11_ground_90 rfl rfl ?_
                    obtain ⟨a30, ha30, hf⟩ := dr_e hf
                    obtain ⟨hT31, hf⟩ := ck_e hf
                    refine g_get (ci := 2) (v := vI (mI M6 a30 2)) 2 X cdX3 i_X11_ground_n_X3 (by decide) k_X11_ground_n_f117 rfl dX11_ground_91 ha30 hT31 rfl ?_
                    cases hf
                    refine g_eqQ hK ?_
                    exact g_iret X hr dX11_ground_94
                  · have hf := ife_f hs29 hf
                    refine g_tabout (tgt := 95) X dX11_ground_16 (gtab_out 9 (0) (by decide) (by decide) (fun i hi => match i, hi with | 0, _ => fun e => hs14 (e.trans (by decide)) | 1, _ => fun e => hs18 (e.trans (by decide)) | 2, _ => fun e => hs19 (e.trans (by decide)) | 3, _ => fun e => hs20 (e.trans (by decide)) | 4, _ => fun e => hs21 (e.trans (by decide)) | 5, _ => fun e => hs22 (e.trans (by decide)) | 6, _ => fun e => hs23 (e.trans (by decide)) | 7, _ => fun e => hs26 (e.trans (by decide)) | 8, _ => fun e => hs29 (e.trans (by decide)) | i + 9, h => absurd h (by omega))) (by decide) ?_
                    cases hf
set_option maxHeartbeats 4000000 in
set_option maxRecDepth 100000 in
theorem m_X11_ground_n (l : Launch) {D : va_G} {cy : Nat → ClassId} {B : Nat} {H0 : Heap} {Z : Nat → Nat} {M M1 : gMem} {x0 : Nat} {x1 : Int32} {x2 : Int32} {r : Int32} (hf : f_X11_ground_n M x0 x1 x2 = some (r, M1)) : Met l yX11_ground wsX11_ground rX11_ground_n (va_Pc (Value.ref x0 :: List.map gv [vI x1, vI x2]) (gPre D cy B H0 (gSt Z B H0) M)) (gQ D cy B H0 (some (vI r)) M1) 0 0 (gA B) := by
  refine Met.ofW (cc := cX11_ground) (maxL := 4) (ret := (some .int)) (by decide) rfl ?_
  intro p e s m args below meth c s₁ Bd hml hv
  obtain ⟨rfl, hW, hKK, hFs⟩ := hv
  have X : gX p s m _ meth c D cy B (gSt Z B H0) RX11 cX11_ground wsX11_ground 4 := ⟨Bd.exec, Bd.bytes, atoms_spec (ws := wsX11_ground) Bd.pre, findClass_of_methodNamed Bd.named, hml, hKK, by rw [hW.1]; exact hW.2.1, Bd.notSynchronized, hFs⟩
  have hr := Bd.returns
  have hl := lv_entry ([.ref x0, .int x1, .int x2]) (n := 4) (Nat.le_of_ble_eq_true rfl)
  show W p l e rX11_ground_n s m _ below meth c s.heap [] 0 0 _ (entryFrame m ([.ref x0, .int x1, .int x2] : List Value).toArray 4)
  rw [lg_entry_eq]
  generalize (lg_sl ([.ref x0, .int x1, .int x2]) ++ List.replicate (4 - (lg_sl ([.ref x0, .int x1, .int x2])).length) Slot.unset).toArray = ls at hl ⊢
  have hl : lv_has ls 4 (List.map gq [(0, vR (some x0)), (1, vI x1), (2, vI x2)]) := hl
  exact t_X11_ground_n_0 X hr _ _ _ _ _ hf rfl s.heap [] ls hW va_S.rf (lv_has_sub hl (lvsub_of _ _ [0, 1, 2] rfl))
/-! ## TideLots.fisher(II)I -/
theorem k_X11_fisher_n_f19 : Cond.fieldLink RX11 19 "TideLots" "shore" "LTideLots$Shore;" ∈ wsX11_fisher := by decide +kernel
theorem i_X11_fisher_n_X11 : ∀ w ∈ u_ws RX11 TX11 4, w ∈ wsX11_fisher := by decide +kernel
theorem k_X11_fisher_n_f125 : Cond.fieldLink RX11 125 "TideLots$Shore" "fishers" "[LTideLots$Fisher;" ∈ wsX11_fisher := by decide +kernel
theorem i_X11_fisher_n_X7 : ∀ w ∈ u_ws RX7 TX7 17, w ∈ wsX11_fisher := by decide +kernel
theorem k_X11_fisher_n_f129 : Cond.fieldLink RX11 129 "TideLots$Fisher" "mesh" "I" ∈ wsX11_fisher := by decide +kernel
theorem i_X11_fisher_n_X1 : ∀ w ∈ u_ws RX1 TX1 11, w ∈ wsX11_fisher := by decide +kernel
theorem k_X11_fisher_n_f134 : Cond.fieldLink RX11 134 "TideLots$Fisher" "toldMesh" "I" ∈ wsX11_fisher := by decide +kernel
theorem k_X11_fisher_n_f137 : Cond.fieldLink RX11 137 "TideLots$Fisher" "net" "I" ∈ wsX11_fisher := by decide +kernel
theorem k_X11_fisher_n_f140 : Cond.fieldLink RX11 140 "TideLots$Fisher" "hold" "I" ∈ wsX11_fisher := by decide +kernel
theorem k_X11_fisher_n_f143 : Cond.fieldLink RX11 143 "TideLots$Fisher" "store" "I" ∈ wsX11_fisher := by decide +kernel
theorem k_X11_fisher_n_f146 : Cond.fieldLink RX11 146 "TideLots$Fisher" "latest" "I" ∈ wsX11_fisher := by decide +kernel
theorem k_X11_fisher_n_f149 : Cond.fieldLink RX11 149 "TideLots$Fisher" "place" "I" ∈ wsX11_fisher := by decide +kernel
theorem k_X11_fisher_n_f152 : Cond.fieldLink RX11 152 "TideLots$Fisher" "tears" "I" ∈ wsX11_fisher := by decide +kernel
theorem k_X11_fisher_n_f155 : Cond.fieldLink RX11 155 "TideLots$Fisher" "isCheat" "Z" ∈ wsX11_fisher := by decide +kernel
theorem k_X11_fisher_n_f159 : Cond.fieldLink RX11 159 "TideLots$Fisher" "caught" "I" ∈ wsX11_fisher := by decide +kernel
abbrev rX11_fisher_n : Room := { frames := 1, cells := 0, slots := 0, locals := 21 }
noncomputable def b_X11_fisher_n_124 (M : gMem) (s0 : Int32) : Option (Int32 × gMem) :=
  some (s0, M)
noncomputable def b_X11_fisher_n_0 (M : gMem) (x0 : Nat) (x1 : Int32) (x2 : Int32) : Option (Int32 × gMem) :=
  ck (mT M x0 = 10) <| bd (f_X11_checkFisher_n M x0 x1) fun _ M1 => ck (mT M1 x0 = 10) <| dr ((mR M1 x0 1)) fun a4 => ck (mT M1 a4 = 7) <| dr ((mR M1 a4 7)) fun a6 => ck (mT M1 a6 = 24) <| ck (inb x1 (mL M1 a6)) <| (if x2 = (0 : Int32) then dr ((mR M1 a6 x1.toNatClampNeg)) fun a10 => ck (mT M1 a10 = 1) <| some ((mI M1 a10 1), M1) else (if x2 = (1 : Int32) then dr ((mR M1 a6 x1.toNatClampNeg)) fun a13 => ck (mT M1 a13 = 1) <| some ((mI M1 a13 0), M1) else (if x2 = (2 : Int32) then dr ((mR M1 a6 x1.toNatClampNeg)) fun a16 => ck (mT M1 a16 = 1) <| some ((mI M1 a16 2), M1) else (if x2 = (3 : Int32) then dr ((mR M1 a6 x1.toNatClampNeg)) fun a19 => ck (mT M1 a19 = 1) <| some ((mI M1 a19 3), M1) else (if x2 = (4 : Int32) then dr ((mR M1 a6 x1.toNatClampNeg)) fun a22 => ck (mT M1 a22 = 1) <| some ((mI M1 a22 4), M1) else (if x2 = (5 : Int32) then dr ((mR M1 a6 x1.toNatClampNeg)) fun a25 => ck (mT M1 a25 = 1) <| some ((mI M1 a25 5), M1) else (if x2 = (6 : Int32) then dr ((mR M1 a6 x1.toNatClampNeg)) fun a28 => ck (mT M1 a28 = 1) <| some ((mI M1 a28 6), M1) else (if x2 = (7 : Int32) then dr ((mR M1 a6 x1.toNatClampNeg)) fun a31 => ck (mT M1 a31 = 1) <| some ((mI M1 a31 7), M1) else (if x2 = (8 : Int32) then dr ((mR M1 a6 x1.toNatClampNeg)) fun a34 => ck (mT M1 a34 = 1) <| (if (mI M1 a34 9) = 0 then b_X11_fisher_n_124 M1 ((0 : Int32)) else b_X11_fisher_n_124 M1 ((1 : Int32))) else (if x2 = (9 : Int32) then dr ((mR M1 a6 x1.toNatClampNeg)) fun a37 => ck (mT M1 a37 = 1) <| some ((mI M1 a37 8), M1) else none))))))))))
noncomputable def f_X11_fisher_n (M : gMem) (x0 : Nat) (x1 : Int32) (x2 : Int32) : Option (Int32 × gMem) :=
  b_X11_fisher_n_0 M x0 x1 x2
set_option maxHeartbeats 4000000 in
set_option maxRecDepth 100000 in
theorem t_X11_fisher_n_124 (X : gX p s m args meth c D cy B (gSt Z B H0) RX11 cX11_fisher wsX11_fisher 4) (hr : meth.sig.returnType = (some .int)) {Q : State → Prop} : ∀ (M : gMem) (s0 : Int32) (z : Int32 × gMem), b_X11_fisher_n_124 M s0 = some z → (fun (r : Int32 × gMem) => Q = gMQ below D cy B H0 args s 0 0 (some (vI r.1)) r.2) z → gGo p l e rX11_fisher_n s m args below meth c D cy B H0 4 0 0 Q 124 [] [vI s0] M := by
  intro M s0 z hf hK
  unfold b_X11_fisher_n_124 at hf
  cases hf
  refine g_eqQ hK ?_
  exact g_iret X hr dX11_fisher_124
set_option maxHeartbeats 4000000 in
set_option maxRecDepth 100000 in
theorem t_X11_fisher_n_0 (X : gX p s m args meth c D cy B (gSt Z B H0) RX11 cX11_fisher wsX11_fisher 4) (hr : meth.sig.returnType = (some .int)) {Q : State → Prop} : ∀ (M : gMem) (x0 : Nat) (x1 : Int32) (x2 : Int32) (z : Int32 × gMem), b_X11_fisher_n_0 M x0 x1 x2 = some z → (fun (r : Int32 × gMem) => Q = gMQ below D cy B H0 args s 0 0 (some (vI r.1)) r.2) z → gGo p l e rX11_fisher_n s m args below meth c D cy B H0 4 0 0 Q 0 [(0, vR (some x0)), (1, vI x1), (2, vI x2)] [] M := by
  intro M x0 x1 x2 z hf hK
  unfold b_X11_fisher_n_0 at hf
  refine g_aload_n X dX11_fisher_0 rfl rfl ?_
  refine g_iload_n X dX11_fisher_1 rfl rfl ?_
  obtain ⟨hT2, hf⟩ := ck_e hf
  obtain ⟨r1, M1, hq1, hf⟩ := bd_e hf
  refine g_callV (ci := 9) (b := x0) (As := [vI x1]) (st := []) (v := none) (M1 := M1) X (m_X11_checkFisher_n l hq1) (cwV 1 X.2.2.1 gX11_fisher_X11_checkFisher rfl rfl rfl (by decide +kernel) ⟨Nat.le_of_ble_eq_true rfl, Nat.le_of_ble_eq_true rfl⟩) rfl rfl rfl hT2 (by decide) rfl (Nat.le_of_ble_eq_true rfl) dX11_fisher_2 ⟨by decide, by decide⟩ ?_
  refine g_aload_n X dX11_fisher_5 rfl rfl ?_
  obtain ⟨hT3, hf⟩ := ck_e hf
  refine g_get (ci := 9) (v := vR (mR M1 x0 1)) 1 X cdX11 i_X11_fisher_n_X11 (by decide) k_X11_fisher_n_f19 rfl dX11_fisher_6 rfl hT3 rfl ?_
  obtain ⟨a4, ha4, hf⟩ := dr_e hf
  obtain ⟨hT5, hf⟩ := ck_e hf
  refine g_get (ci := 6) (v := vR (mR M1 a4 7)) 7 X cdX7 i_X11_fisher_n_X7 (by decide) k_X11_fisher_n_f125 rfl dX11_fisher_9 ha4 hT5 rfl ?_
  refine g_iload_n X dX11_fisher_12 rfl rfl ?_
  obtain ⟨a6, ha6, hf⟩ := dr_e hf
  obtain ⟨hT7, hf⟩ := ck_e hf
  obtain ⟨hg8, hf⟩ := ck_e hf
  refine g_aald (t0 := 4) X dX11_fisher_13 ha6 hT7 (by decide) rfl hg8 ?_
  refine g_astore_n (lv' := [(3, vR (mR M1 a6 x1.toNatClampNeg)), (0, vR (some x0)), (1, vI x1), (2, vI x2)]) X dX11_fisher_14 rfl (by decide) rfl ?_
  refine g_iload_n X dX11_fisher_15 rfl rfl ?_
  by_cases hs9 : x2 = (0 : Int32)
  · have hf := ife_t hs9 hf
    refine g_tabin (tgt := 72) X dX11_fisher_16 hs9 (by decide) (by decide) rfl (by decide) ?_
    refine g_aload_n X dX11_fisher_72 rfl rfl ?_
    obtain ⟨a10, ha10, hf⟩ := dr_e hf
    obtain ⟨hT11, hf⟩ := ck_e hf
    refine g_get (ci := 0) (v := vI (mI M1 a10 1)) 1 X cdX1 i_X11_fisher_n_X1 (by decide) k_X11_fisher_n_f129 rfl dX11_fisher_73 ha10 hT11 rfl ?_
    cases hf
    refine g_eqQ hK ?_
    exact g_iret X hr dX11_fisher_76
  · have hf := ife_f hs9 hf
    by_cases hs12 : x2 = (1 : Int32)
    · have hf := ife_t hs12 hf
      refine g_tabin (tgt := 77) X dX11_fisher_16 hs12 (by decide) (by decide) rfl (by decide) ?_
      refine g_aload_n X dX11_fisher_77 rfl rfl ?_
      obtain ⟨a13, ha13, hf⟩ := dr_e hf
      obtain ⟨hT14, hf⟩ := ck_e hf
      refine g_get (ci := 0) (v := vI (mI M1 a13 0)) 0 X cdX1 i_X11_fisher_n_X1 (by decide) k_X11_fisher_n_f134 rfl dX11_fisher_78 ha13 hT14 rfl ?_
      cases hf
      refine g_eqQ hK ?_
      exact g_iret X hr dX11_fisher_81
    · have hf := ife_f hs12 hf
      by_cases hs15 : x2 = (2 : Int32)
      · have hf := ife_t hs15 hf
        refine g_tabin (tgt := 82) X dX11_fisher_16 hs15 (by decide) (by decide) rfl (by decide) ?_
        refine g_aload_n X dX11_fisher_82 rfl rfl ?_
        obtain ⟨a16, ha16, hf⟩ := dr_e hf
        obtain ⟨hT17, hf⟩ := ck_e hf
        refine g_get (ci := 0) (v := vI (mI M1 a16 2)) 2 X cdX1 i_X11_fisher_n_X1 (by decide) k_X11_fisher_n_f137 rfl dX11_fisher_83 ha16 hT17 rfl ?_
        cases hf
        refine g_eqQ hK ?_
        exact g_iret X hr dX11_fisher_86
      · have hf := ife_f hs15 hf
        by_cases hs18 : x2 = (3 : Int32)
        · have hf := ife_t hs18 hf
          refine g_tabin (tgt := 87) X dX11_fisher_16 hs18 (by decide) (by decide) rfl (by decide) ?_
          refine g_aload_n X dX11_fisher_87 rfl rfl ?_
          obtain ⟨a19, ha19, hf⟩ := dr_e hf
          obtain ⟨hT20, hf⟩ := ck_e hf
          refine g_get (ci := 0) (v := vI (mI M1 a19 3)) 3 X cdX1 i_X11_fisher_n_X1 (by decide) k_X11_fisher_n_f140 rfl dX11_fisher_88 ha19 hT20 rfl ?_
          cases hf
          refine g_eqQ hK ?_
          exact g_iret X hr dX11_fisher_91
        · have hf := ife_f hs18 hf
          by_cases hs21 : x2 = (4 : Int32)
          · have hf := ife_t hs21 hf
            refine g_tabin (tgt := 92) X dX11_fisher_16 hs21 (by decide) (by decide) rfl (by decide) ?_
            refine g_aload_n X dX11_fisher_92 rfl rfl ?_
            obtain ⟨a22, ha22, hf⟩ := dr_e hf
            obtain ⟨hT23, hf⟩ := ck_e hf
            refine g_get (ci := 0) (v := vI (mI M1 a22 4)) 4 X cdX1 i_X11_fisher_n_X1 (by decide) k_X11_fisher_n_f143 rfl dX11_fisher_93 ha22 hT23 rfl ?_
            cases hf
            refine g_eqQ hK ?_
            exact g_iret X hr dX11_fisher_96
          · have hf := ife_f hs21 hf
            by_cases hs24 : x2 = (5 : Int32)
            · have hf := ife_t hs24 hf
              refine g_tabin (tgt := 97) X dX11_fisher_16 hs24 (by decide) (by decide) rfl (by decide) ?_
              refine g_aload_n X dX11_fisher_97 rfl rfl ?_
              obtain ⟨a25, ha25, hf⟩ := dr_e hf
              obtain ⟨hT26, hf⟩ := ck_e hf
              refine g_get (ci := 0) (v := vI (mI M1 a25 5)) 5 X cdX1 i_X11_fisher_n_X1 (by decide) k_X11_fisher_n_f146 rfl dX11_fisher_98 ha25 hT26 rfl ?_
              cases hf
              refine g_eqQ hK ?_
              exact g_iret X hr dX11_fisher_101
            · have hf := ife_f hs24 hf
              by_cases hs27 : x2 = (6 : Int32)
              · have hf := ife_t hs27 hf
                refine g_tabin (tgt := 102) X dX11_fisher_16 hs27 (by decide) (by decide) rfl (by decide) ?_
                refine g_aload_n X dX11_fisher_102 rfl rfl ?_
                obtain ⟨a28, ha28, hf⟩ := dr_e hf
                obtain ⟨hT29, hf⟩ := ck_e hf
                refine g_get (ci := 0) (v := vI (mI M1 a28 6)) 6 X cdX1 i_X11_fisher_n_X1 (by decide) k_X11_fisher_n_f149 rfl dX11_fisher_103 ha28 hT29 rfl ?_
                cases hf
                refine g_eqQ hK ?_
                exact g_iret X hr dX11_fisher_106
              · have hf := ife_f hs27 hf
                by_cases hs30 : x2 = (7 : Int32)
                · have hf := ife_t hs30 hf
                  refine g_tabin (tgt := 107) X dX11_fisher_16 hs30 (by decide) (by decide) rfl (by decide) ?_
                  refine g_aload_n X dX11_fisher_107 rfl rfl ?_
                  obtain ⟨a31, ha31, hf⟩ := dr_e hf
                  obtain ⟨hT32, hf⟩ := ck_e hf
                  refine g_get (ci := 0) (v := vI (mI M1 a31 7)) 7 X cdX1 i_X11_fisher_n_X1 (by decide) k_X11_fisher_n_f152 rfl dX11_fisher_108 ha31 hT32 rfl ?_
                  cases hf
                  refine g_eqQ hK ?_
                  exact g_iret X hr dX11_fisher_111
                · have hf := ife_f hs30 hf
                  by_cases hs33 : x2 = (8 : Int32)
                  · have hf := ife_t hs33 hf
                    refine g_tabin (tgt := 112) X dX11_fisher_16 hs33 (by decide) (by decide) rfl (by decide) ?_
                    refine g_aload_n X dX11_fisher_112 rfl rfl ?_
                    obtain ⟨a34, ha34, hf⟩ := dr_e hf
                    obtain ⟨hT35, hf⟩ := ck_e hf
                    refine g_get (ci := 0) (v := vI (mI M1 a34 9)) 9 X cdX1 i_X11_fisher_n_X1 (by decide) k_X11_fisher_n_f155 rfl dX11_fisher_113 ha34 hT35 rfl ?_
                    refine g_if_eq (tgt := 123) X dX11_fisher_116 (by decide) (fun hc => ?_) (fun hc => ?_)
                    · have hf := ife_t hc hf
                      refine g_iconst (v := (0 : Int32)) X dX11_fisher_123 (by decide) ?_
                      refine g_sub (lvsub_of _ _ [] rfl) ?_
                      exact t_X11_fisher_n_124 X hr _ _ _ hf hK
                    · have hf := ife_f hc hf
                      refine g_iconst (v := (1 : Int32)) X dX11_fisher_119 (by decide) ?_
                      refine g_goto (tgt := 124) X dX11_fisher_120 (by decide) ?_
                      refine g_sub (lvsub_of _ _ [] rfl) ?_
                      exact t_X11_fisher_n_124 X hr _ _ _ hf hK
                  · have hf := ife_f hs33 hf
                    by_cases hs36 : x2 = (9 : Int32)
                    · have hf := ife_t hs36 hf
                      refine g_tabin (tgt := 125) X dX11_fisher_16 hs36 (by decide) (by decide) rfl (by decide) ?_
                      refine g_aload_n X dX11_fisher_125 rfl rfl ?_
                      obtain ⟨a37, ha37, hf⟩ := dr_e hf
                      obtain ⟨hT38, hf⟩ := ck_e hf
                      refine g_get (ci := 0) (v := vI (mI M1 a37 8)) 8 X cdX1 i_X11_fisher_n_X1 (by decide) k_X11_fisher_n_f159 rfl dX11_fisher_126 ha37 hT38 rfl ?_
                      cases hf
                      refine g_eqQ hK ?_
                      exact g_iret X hr dX11_fisher_129
                    · have hf := ife_f hs36 hf
                      refine g_tabout (tgt := 130) X dX11_fisher_16 (gtab_out 10 (0) (by decide) (by decide) (fun i hi => match i, hi with | 0, _ => fun e => hs9 (e.trans (by decide)) | 1, _ => fun e => hs12 (e.trans (by decide)) | 2, _ => fun e => hs15 (e.trans (by decide)) | 3, _ => fun e => hs18 (e.trans (by decide)) | 4, _ => fun e => hs21 (e.trans (by decide)) | 5, _ => fun e => hs24 (e.trans (by decide)) | 6, _ => fun e => hs27 (e.trans (by decide)) | 7, _ => fun e => hs30 (e.trans (by decide)) | 8, _ => fun e => hs33 (e.trans (by decide)) | 9, _ => fun e => hs36 (e.trans (by decide)) | i + 10, h => absurd h (by omega))) (by decide) ?_
                      cases hf
set_option maxHeartbeats 4000000 in
set_option maxRecDepth 100000 in
theorem m_X11_fisher_n (l : Launch) {D : va_G} {cy : Nat → ClassId} {B : Nat} {H0 : Heap} {Z : Nat → Nat} {M M1 : gMem} {x0 : Nat} {x1 : Int32} {x2 : Int32} {r : Int32} (hf : f_X11_fisher_n M x0 x1 x2 = some (r, M1)) : Met l yX11_fisher wsX11_fisher rX11_fisher_n (va_Pc (Value.ref x0 :: List.map gv [vI x1, vI x2]) (gPre D cy B H0 (gSt Z B H0) M)) (gQ D cy B H0 (some (vI r)) M1) 0 0 (gA B) := by
  refine Met.ofW (cc := cX11_fisher) (maxL := 4) (ret := (some .int)) (by decide) rfl ?_
  intro p e s m args below meth c s₁ Bd hml hv
  obtain ⟨rfl, hW, hKK, hFs⟩ := hv
  have X : gX p s m _ meth c D cy B (gSt Z B H0) RX11 cX11_fisher wsX11_fisher 4 := ⟨Bd.exec, Bd.bytes, atoms_spec (ws := wsX11_fisher) Bd.pre, findClass_of_methodNamed Bd.named, hml, hKK, by rw [hW.1]; exact hW.2.1, Bd.notSynchronized, hFs⟩
  have hr := Bd.returns
  have hl := lv_entry ([.ref x0, .int x1, .int x2]) (n := 4) (Nat.le_of_ble_eq_true rfl)
  show W p l e rX11_fisher_n s m _ below meth c s.heap [] 0 0 _ (entryFrame m ([.ref x0, .int x1, .int x2] : List Value).toArray 4)
  rw [lg_entry_eq]
  generalize (lg_sl ([.ref x0, .int x1, .int x2]) ++ List.replicate (4 - (lg_sl ([.ref x0, .int x1, .int x2])).length) Slot.unset).toArray = ls at hl ⊢
  have hl : lv_has ls 4 (List.map gq [(0, vR (some x0)), (1, vI x1), (2, vI x2)]) := hl
  exact t_X11_fisher_n_0 X hr _ _ _ _ _ hf rfl s.heap [] ls hW va_S.rf (lv_has_sub hl (lvsub_of _ _ [0, 1, 2] rfl))
/-! ## TideLots.pact(II)I -/
theorem k_X11_pact_n_f19 : Cond.fieldLink RX11 19 "TideLots" "shore" "LTideLots$Shore;" ∈ wsX11_pact := by decide +kernel
theorem i_X11_pact_n_X11 : ∀ w ∈ u_ws RX11 TX11 4, w ∈ wsX11_pact := by decide +kernel
theorem k_X11_pact_n_f77 : Cond.fieldLink RX11 77 "TideLots$Shore" "pactCount" "I" ∈ wsX11_pact := by decide +kernel
theorem i_X11_pact_n_X7 : ∀ w ∈ u_ws RX7 TX7 17, w ∈ wsX11_pact := by decide +kernel
theorem k_X11_pact_n_f164 : Cond.fieldLink RX11 164 "TideLots$Shore" "pacts" "[LTideLots$Pact;" ∈ wsX11_pact := by decide +kernel
theorem k_X11_pact_n_f174 : Cond.fieldLink RX11 174 "TideLots$Pact" "ground" "I" ∈ wsX11_pact := by decide +kernel
theorem i_X11_pact_n_X5 : ∀ w ∈ u_ws RX5 TX5 8, w ∈ wsX11_pact := by decide +kernel
theorem k_X11_pact_n_f177 : Cond.fieldLink RX11 177 "TideLots$Pact" "size" "I" ∈ wsX11_pact := by decide +kernel
theorem k_X11_pact_n_f180 : Cond.fieldLink RX11 180 "TideLots$Pact" "fishers" "[I" ∈ wsX11_pact := by decide +kernel
theorem k_X11_pact_n_f182 : Cond.fieldLink RX11 182 "TideLots$Pact" "shown" "I" ∈ wsX11_pact := by decide +kernel
theorem k_X11_pact_n_f185 : Cond.fieldLink RX11 185 "TideLots$Pact" "hidden" "I" ∈ wsX11_pact := by decide +kernel
theorem k_X11_pact_n_f188 : Cond.fieldLink RX11 188 "TideLots$Pact" "hidingTides" "I" ∈ wsX11_pact := by decide +kernel
abbrev rX11_pact_n : Room := { frames := 1, cells := 0, slots := 0, locals := 20 }
noncomputable def b_X11_pact_n_92 (M : gMem) (s0 : Int32) : Option (Int32 × gMem) :=
  some (s0, M)
noncomputable def b_X11_pact_n_15 (M : gMem)  : Option (Int32 × gMem) :=
  none
noncomputable def b_X11_pact_n_0 (M : gMem) (x0 : Nat) (x1 : Int32) (x2 : Int32) : Option (Int32 × gMem) :=
  (if x1 < 0 then none else ck (mT M x0 = 10) <| dr ((mR M x0 1)) fun a2 => ck (mT M a2 = 7) <| (if x1 < (mI M a2 5) then dr ((mR M a2 9)) fun a4 => ck (mT M a4 = 26) <| ck (inb x1 (mL M a4)) <| (if x2 = (0 : Int32) then dr ((mR M a4 x1.toNatClampNeg)) fun a9 => ck (mT M a9 = 5) <| bd (f_X5_splits M a9) fun r8 M8 => (if r8 = 0 then b_X11_pact_n_92 M8 ((1 : Int32)) else b_X11_pact_n_92 M8 ((0 : Int32))) else (if x2 = (1 : Int32) then dr ((mR M a4 x1.toNatClampNeg)) fun a12 => ck (mT M a12 = 5) <| some ((mI M a12 0), M) else (if x2 = (2 : Int32) then dr ((mR M a4 x1.toNatClampNeg)) fun a15 => ck (mT M a15 = 5) <| some ((mI M a15 3), M) else (if x2 = (3 : Int32) then dr ((mR M a4 x1.toNatClampNeg)) fun a18 => ck (mT M a18 = 5) <| dr ((mR M a18 4)) fun a20 => ck (mT M a20 = 20) <| ck (inb (0 : Int32) (mL M a20)) <| some ((mI M a20 ((0 : Int32)).toNatClampNeg), M) else (if x2 = (4 : Int32) then dr ((mR M a4 x1.toNatClampNeg)) fun a24 => ck (mT M a24 = 5) <| some ((mI M a24 5), M) else (if x2 = (5 : Int32) then dr ((mR M a4 x1.toNatClampNeg)) fun a27 => ck (mT M a27 = 5) <| some ((mI M a27 6), M) else (if x2 = (6 : Int32) then dr ((mR M a4 x1.toNatClampNeg)) fun a30 => ck (mT M a30 = 5) <| some ((mI M a30 7), M) else none))))))) else none))
noncomputable def f_X11_pact_n (M : gMem) (x0 : Nat) (x1 : Int32) (x2 : Int32) : Option (Int32 × gMem) :=
  b_X11_pact_n_0 M x0 x1 x2
set_option maxHeartbeats 4000000 in
set_option maxRecDepth 100000 in
theorem t_X11_pact_n_92 (X : gX p s m args meth c D cy B (gSt Z B H0) RX11 cX11_pact wsX11_pact 4) (hr : meth.sig.returnType = (some .int)) {Q : State → Prop} : ∀ (M : gMem) (s0 : Int32) (z : Int32 × gMem), b_X11_pact_n_92 M s0 = some z → (fun (r : Int32 × gMem) => Q = gMQ below D cy B H0 args s 0 0 (some (vI r.1)) r.2) z → gGo p l e rX11_pact_n s m args below meth c D cy B H0 4 0 0 Q 92 [] [vI s0] M := by
  intro M s0 z hf hK
  unfold b_X11_pact_n_92 at hf
  cases hf
  refine g_eqQ hK ?_
  exact g_iret X hr dX11_pact_92
set_option maxHeartbeats 4000000 in
set_option maxRecDepth 100000 in
theorem t_X11_pact_n_15 (X : gX p s m args meth c D cy B (gSt Z B H0) RX11 cX11_pact wsX11_pact 4) (hr : meth.sig.returnType = (some .int)) {Q : State → Prop} : ∀ (M : gMem)  (z : Int32 × gMem), b_X11_pact_n_15 M  = some z → (fun (r : Int32 × gMem) => Q = gMQ below D cy B H0 args s 0 0 (some (vI r.1)) r.2) z → gGo p l e rX11_pact_n s m args below meth c D cy B H0 4 0 0 Q 15 [] [] M := by
  intro M  z hf hK
  unfold b_X11_pact_n_15 at hf
  cases hf
set_option maxHeartbeats 4000000 in
set_option maxRecDepth 100000 in
theorem t_X11_pact_n_0 (X : gX p s m args meth c D cy B (gSt Z B H0) RX11 cX11_pact wsX11_pact 4) (hr : meth.sig.returnType = (some .int)) {Q : State → Prop} : ∀ (M : gMem) (x0 : Nat) (x1 : Int32) (x2 : Int32) (z : Int32 × gMem), b_X11_pact_n_0 M x0 x1 x2 = some z → (fun (r : Int32 × gMem) => Q = gMQ below D cy B H0 args s 0 0 (some (vI r.1)) r.2) z → gGo p l e rX11_pact_n s m args below meth c D cy B H0 4 0 0 Q 0 [(0, vR (some x0)), (1, vI x1), (2, vI x2)] [] M := by
  intro M x0 x1 x2 z hf hK
  unfold b_X11_pact_n_0 at hf
  refine g_iload_n X dX11_pact_0 rfl rfl ?_
  refine g_if_lt (tgt := 15) X dX11_pact_1 (by decide) (fun hc => ?_) (fun hc => ?_)
  · have hf := ife_t hc hf
    cases hf
  · have hf := ife_f hc hf
    refine g_iload_n X dX11_pact_4 rfl rfl ?_
    refine g_aload_n X dX11_pact_5 rfl rfl ?_
    obtain ⟨hT1, hf⟩ := ck_e hf
    refine g_get (ci := 9) (v := vR (mR M x0 1)) 1 X cdX11 i_X11_pact_n_X11 (by decide) k_X11_pact_n_f19 rfl dX11_pact_6 rfl hT1 rfl ?_
    obtain ⟨a2, ha2, hf⟩ := dr_e hf
    obtain ⟨hT3, hf⟩ := ck_e hf
    refine g_get (ci := 6) (v := vI (mI M a2 5)) 5 X cdX7 i_X11_pact_n_X7 (by decide) k_X11_pact_n_f77 rfl dX11_pact_9 ha2 hT3 rfl ?_
    refine g_icmp_lt (tgt := 25) X dX11_pact_12 (by decide) (fun hc => ?_) (fun hc => ?_)
    · have hf := ife_t hc hf
      refine g_aload_n X dX11_pact_25 rfl rfl ?_
      refine g_get (ci := 9) (v := vR (mR M x0 1)) 1 X cdX11 i_X11_pact_n_X11 (by decide) k_X11_pact_n_f19 rfl dX11_pact_26 rfl hT1 rfl ?_
      refine g_get (ci := 6) (v := vR (mR M a2 9)) 9 X cdX7 i_X11_pact_n_X7 (by decide) k_X11_pact_n_f164 rfl dX11_pact_29 ha2 hT3 rfl ?_
      refine g_iload_n X dX11_pact_32 rfl rfl ?_
      obtain ⟨a4, ha4, hf⟩ := dr_e hf
      obtain ⟨hT5, hf⟩ := ck_e hf
      obtain ⟨hg6, hf⟩ := ck_e hf
      refine g_aald (t0 := 6) X dX11_pact_33 ha4 hT5 (by decide) rfl hg6 ?_
      refine g_astore_n (lv' := [(3, vR (mR M a4 x1.toNatClampNeg)), (0, vR (some x0)), (1, vI x1), (2, vI x2)]) X dX11_pact_34 rfl (by decide) rfl ?_
      refine g_iload_n X dX11_pact_35 rfl rfl ?_
      by_cases hs7 : x2 = (0 : Int32)
      · have hf := ife_t hs7 hf
        refine g_tabin (tgt := 80) X dX11_pact_36 hs7 (by decide) (by decide) rfl (by decide) ?_
        refine g_aload_n X dX11_pact_80 rfl rfl ?_
        obtain ⟨a9, ha9, hf⟩ := dr_e hf
        obtain ⟨hT10, hf⟩ := ck_e hf
        obtain ⟨r8, M8, hq8, hf⟩ := bd_e hf
        refine g_callV (ci := 4) (b := a9) (As := []) (st := []) (v := some (vI r8)) (M1 := M8) X (m_X5_splits l hq8) (cwV 0 X.2.2.1 gX11_pact_X5_splits rfl rfl rfl (by decide +kernel) ⟨Nat.le_of_ble_eq_true rfl, Nat.le_of_ble_eq_true rfl⟩) rfl rfl ha9 hT10 (by decide) rfl (Nat.le_of_ble_eq_true rfl) dX11_pact_81 ⟨by decide, by decide⟩ ?_
        refine g_if_eq (tgt := 91) X dX11_pact_84 (by decide) (fun hc => ?_) (fun hc => ?_)
        · have hf := ife_t hc hf
          refine g_iconst (v := (1 : Int32)) X dX11_pact_91 (by decide) ?_
          refine g_sub (lvsub_of _ _ [] rfl) ?_
          exact t_X11_pact_n_92 X hr _ _ _ hf hK
        · have hf := ife_f hc hf
          refine g_iconst (v := (0 : Int32)) X dX11_pact_87 (by decide) ?_
          refine g_goto (tgt := 92) X dX11_pact_88 (by decide) ?_
          refine g_sub (lvsub_of _ _ [] rfl) ?_
          exact t_X11_pact_n_92 X hr _ _ _ hf hK
      · have hf := ife_f hs7 hf
        by_cases hs11 : x2 = (1 : Int32)
        · have hf := ife_t hs11 hf
          refine g_tabin (tgt := 93) X dX11_pact_36 hs11 (by decide) (by decide) rfl (by decide) ?_
          refine g_aload_n X dX11_pact_93 rfl rfl ?_
          obtain ⟨a12, ha12, hf⟩ := dr_e hf
          obtain ⟨hT13, hf⟩ := ck_e hf
          refine g_get (ci := 4) (v := vI (mI M a12 0)) 0 X cdX5 i_X11_pact_n_X5 (by decide) k_X11_pact_n_f174 rfl dX11_pact_94 ha12 hT13 rfl ?_
          cases hf
          refine g_eqQ hK ?_
          exact g_iret X hr dX11_pact_97
        · have hf := ife_f hs11 hf
          by_cases hs14 : x2 = (2 : Int32)
          · have hf := ife_t hs14 hf
            refine g_tabin (tgt := 98) X dX11_pact_36 hs14 (by decide) (by decide) rfl (by decide) ?_
            refine g_aload_n X dX11_pact_98 rfl rfl ?_
            obtain ⟨a15, ha15, hf⟩ := dr_e hf
            obtain ⟨hT16, hf⟩ := ck_e hf
            refine g_get (ci := 4) (v := vI (mI M a15 3)) 3 X cdX5 i_X11_pact_n_X5 (by decide) k_X11_pact_n_f177 rfl dX11_pact_99 ha15 hT16 rfl ?_
            cases hf
            refine g_eqQ hK ?_
            exact g_iret X hr dX11_pact_102
          · have hf := ife_f hs14 hf
            by_cases hs17 : x2 = (3 : Int32)
            · have hf := ife_t hs17 hf
              refine g_tabin (tgt := 103) X dX11_pact_36 hs17 (by decide) (by decide) rfl (by decide) ?_
              refine g_aload_n X dX11_pact_103 rfl rfl ?_
              obtain ⟨a18, ha18, hf⟩ := dr_e hf
              obtain ⟨hT19, hf⟩ := ck_e hf
              refine g_get (ci := 4) (v := vR (mR M a18 4)) 4 X cdX5 i_X11_pact_n_X5 (by decide) k_X11_pact_n_f180 rfl dX11_pact_104 ha18 hT19 rfl ?_
              refine g_iconst (v := (0 : Int32)) X dX11_pact_107 (by decide) ?_
              obtain ⟨a20, ha20, hf⟩ := dr_e hf
              obtain ⟨hT21, hf⟩ := ck_e hf
              obtain ⟨hg22, hf⟩ := ck_e hf
              refine g_iald X dX11_pact_108 ha20 hT21 hg22 ?_
              cases hf
              refine g_eqQ hK ?_
              exact g_iret X hr dX11_pact_109
            · have hf := ife_f hs17 hf
              by_cases hs23 : x2 = (4 : Int32)
              · have hf := ife_t hs23 hf
                refine g_tabin (tgt := 110) X dX11_pact_36 hs23 (by decide) (by decide) rfl (by decide) ?_
                refine g_aload_n X dX11_pact_110 rfl rfl ?_
                obtain ⟨a24, ha24, hf⟩ := dr_e hf
                obtain ⟨hT25, hf⟩ := ck_e hf
                refine g_get (ci := 4) (v := vI (mI M a24 5)) 5 X cdX5 i_X11_pact_n_X5 (by decide) k_X11_pact_n_f182 rfl dX11_pact_111 ha24 hT25 rfl ?_
                cases hf
                refine g_eqQ hK ?_
                exact g_iret X hr dX11_pact_114
              · have hf := ife_f hs23 hf
                by_cases hs26 : x2 = (5 : Int32)
                · have hf := ife_t hs26 hf
                  refine g_tabin (tgt := 115) X dX11_pact_36 hs26 (by decide) (by decide) rfl (by decide) ?_
                  refine g_aload_n X dX11_pact_115 rfl rfl ?_
                  obtain ⟨a27, ha27, hf⟩ := dr_e hf
                  obtain ⟨hT28, hf⟩ := ck_e hf
                  refine g_get (ci := 4) (v := vI (mI M a27 6)) 6 X cdX5 i_X11_pact_n_X5 (by decide) k_X11_pact_n_f185 rfl dX11_pact_116 ha27 hT28 rfl ?_
                  cases hf
                  refine g_eqQ hK ?_
                  exact g_iret X hr dX11_pact_119
                · have hf := ife_f hs26 hf
                  by_cases hs29 : x2 = (6 : Int32)
                  · have hf := ife_t hs29 hf
                    refine g_tabin (tgt := 120) X dX11_pact_36 hs29 (by decide) (by decide) rfl (by decide) ?_
                    refine g_aload_n X dX11_pact_120 rfl rfl ?_
                    obtain ⟨a30, ha30, hf⟩ := dr_e hf
                    obtain ⟨hT31, hf⟩ := ck_e hf
                    refine g_get (ci := 4) (v := vI (mI M a30 7)) 7 X cdX5 i_X11_pact_n_X5 (by decide) k_X11_pact_n_f188 rfl dX11_pact_121 ha30 hT31 rfl ?_
                    cases hf
                    refine g_eqQ hK ?_
                    exact g_iret X hr dX11_pact_124
                  · have hf := ife_f hs29 hf
                    refine g_tabout (tgt := 125) X dX11_pact_36 (gtab_out 7 (0) (by decide) (by decide) (fun i hi => match i, hi with | 0, _ => fun e => hs7 (e.trans (by decide)) | 1, _ => fun e => hs11 (e.trans (by decide)) | 2, _ => fun e => hs14 (e.trans (by decide)) | 3, _ => fun e => hs17 (e.trans (by decide)) | 4, _ => fun e => hs23 (e.trans (by decide)) | 5, _ => fun e => hs26 (e.trans (by decide)) | 6, _ => fun e => hs29 (e.trans (by decide)) | i + 7, h => absurd h (by omega))) (by decide) ?_
                    cases hf
    · have hf := ife_f hc hf
      cases hf
set_option maxHeartbeats 4000000 in
set_option maxRecDepth 100000 in
theorem m_X11_pact_n (l : Launch) {D : va_G} {cy : Nat → ClassId} {B : Nat} {H0 : Heap} {Z : Nat → Nat} {M M1 : gMem} {x0 : Nat} {x1 : Int32} {x2 : Int32} {r : Int32} (hf : f_X11_pact_n M x0 x1 x2 = some (r, M1)) : Met l yX11_pact wsX11_pact rX11_pact_n (va_Pc (Value.ref x0 :: List.map gv [vI x1, vI x2]) (gPre D cy B H0 (gSt Z B H0) M)) (gQ D cy B H0 (some (vI r)) M1) 0 0 (gA B) := by
  refine Met.ofW (cc := cX11_pact) (maxL := 4) (ret := (some .int)) (by decide) rfl ?_
  intro p e s m args below meth c s₁ Bd hml hv
  obtain ⟨rfl, hW, hKK, hFs⟩ := hv
  have X : gX p s m _ meth c D cy B (gSt Z B H0) RX11 cX11_pact wsX11_pact 4 := ⟨Bd.exec, Bd.bytes, atoms_spec (ws := wsX11_pact) Bd.pre, findClass_of_methodNamed Bd.named, hml, hKK, by rw [hW.1]; exact hW.2.1, Bd.notSynchronized, hFs⟩
  have hr := Bd.returns
  have hl := lv_entry ([.ref x0, .int x1, .int x2]) (n := 4) (Nat.le_of_ble_eq_true rfl)
  show W p l e rX11_pact_n s m _ below meth c s.heap [] 0 0 _ (entryFrame m ([.ref x0, .int x1, .int x2] : List Value).toArray 4)
  rw [lg_entry_eq]
  generalize (lg_sl ([.ref x0, .int x1, .int x2]) ++ List.replicate (4 - (lg_sl ([.ref x0, .int x1, .int x2])).length) Slot.unset).toArray = ls at hl ⊢
  have hl : lv_has ls 4 (List.map gq [(0, vR (some x0)), (1, vI x1), (2, vI x2)]) := hl
  exact t_X11_pact_n_0 X hr _ _ _ _ _ hf rfl s.heap [] ls hW va_S.rf (lv_has_sub hl (lvsub_of _ _ [0, 1, 2] rfl))
end
