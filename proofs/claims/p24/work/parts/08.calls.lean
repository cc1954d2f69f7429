/-! Rows: returns, calls, Math, what is made; a method's entry -/
section GCALL
variable {p : Program} {l : Launch} {e : Env} {R : Room} {s : State} {m : MethodId} {args : Array Value} {below : List Frame} {meth : Method} {c : Code} {D : va_G} {cy : Nat → ClassId} {B : Nat} {H0 : Heap} {Fs : State → Prop} {own : String} {cc : ByteArray} {ws : List Cond} {nL k n pc : Nat} {Q : State → Prop} {lv lv' : List (Nat × gV)} {st stk : List gV} {M M1 : gMem}
abbrev gMQ (below : List Frame) (D : va_G) (cy : Nat → ClassId) (B : Nat) (H0 : Heap) (args : Array Value) (s : State) (k n : Nat) (v : Option gV) (M : gMem) : State → Prop := MQ below (gQ D cy B H0 v M) args s k n (gA B)
theorem gQ_of {v : Option gV} {H : Heap} {locs : List Loc} {t : State} (hW : gW D cy B H0 M H) (hS : va_S (gA B) s.heap H locs) (ht : t.heap = H) : gQ D cy B H0 v M args s (.returned (v.map gv)) t := ⟨rfl, by rw [ht]; exact hW, by rw [ht]; exact hS.1⟩
theorem g_iret {x : Int32} (X : gX p s m args meth c D cy B Fs own cc ws nL) (hr : meth.sig.returnType = some .int) (hd : decode cc pc = .ok (.ireturn, 1)) : gGo p l e R s m args below meth c D cy B H0 nL k n (gMQ below D cy B H0 args s k n (some (vI x)) M) (pc) (lv) ([vI x]) (M) := fun H locs ls hW hS hl =>
  W.iret (v := x) X.1 X.2.1 hr (fun t ht hw => gQ_of (v := some (vI x)) hW hS ht) hS.2.2 hd X.2.2.2.2.2.2.2.1
theorem g_zret {x : Int32} {ty : FieldType} (X : gX p s m args meth c D cy B Fs own cc ws nL) (hr : meth.sig.returnType = some ty) (hn : narrow ty (.int x) = .int x) (hd : decode cc pc = .ok (.ireturn, 1)) : gGo p l e R s m args below meth c D cy B H0 nL k n (gMQ below D cy B H0 args s k n (some (vI x)) M) (pc) (lv) ([vI x]) (M) := fun H locs ls hW hS hl =>
  W.zret (v := x) X.1 X.2.1 hr hn (fun t ht hw => gQ_of (v := some (vI x)) hW hS ht) hS.2.2 hd X.2.2.2.2.2.2.2.1
theorem g_vret (X : gX p s m args meth c D cy B Fs own cc ws nL) (hr : meth.sig.returnType = none) (hd : decode cc pc = .ok (.return_, 1)) : gGo p l e R s m args below meth c D cy B H0 nL k n (gMQ below D cy B H0 args s k n none M) (pc) (lv) ([]) (M) := fun H locs ls hW hS hl =>
  W.vret X.1 X.2.1 hr (fun t ht hw => gQ_of (v := none) hW hS ht) hS.2.2 hd X.2.2.2.2.2.2.2.1
theorem g_lret {x : Int64} (X : gX p s m args meth c D cy B Fs own cc ws nL) (hr : meth.sig.returnType = some .long) (hd : decode cc pc = .ok (.lreturn, 1)) : gGo p l e R s m args below meth c D cy B H0 nL k n (gMQ below D cy B H0 args s k n (some (vJ x)) M) (pc) (lv) ([vJ x]) (M) := fun H locs ls hW hS hl =>
  W.lret (v := x) X.1 X.2.1 hr (fun t ht hw => gQ_of (v := some (vJ x)) hW hS ht) hS.2.2 hd X.2.2.2.2.2.2.2.1
theorem g_aret {x : Option Nat} {rt : FieldType} (X : gX p s m args meth c D cy B Fs own cc ws nL) (hr : meth.sig.returnType = some rt) (hrt : (∃ z, rt = .object z) ∨ ∃ z, rt = .array z) (hd : decode cc pc = .ok (.areturn, 1)) : gGo p l e R s m args below meth c D cy B H0 nL k n (gMQ below D cy B H0 args s k n (some (vR x)) M) (pc) (lv) ([vR x]) (M) := fun H locs ls hW hS hl =>
  W.aret (v := va_rf x) X.1 X.2.1 hr hrt (va_rf_or x) (fun t ht hw => gQ_of (v := some (vR x)) hW hS ht) hS.2.2 hd X.2.2.2.2.2.2.2.1
theorem gnb {x : Int32} (h : x = 0 ∨ x = 1) : narrow .boolean (.int x) = .int x := by rcases h with rfl | rfl <;> rfl
/-- a run that ends as gQ says, in the caller -/
theorem g_run {v : Option gV} {st0 : List gV} {mc ms : Nat} {a : Array Value} (hr : ∀ (H : Heap) (locs : List Loc) (ls : Array Slot), gW D cy B H0 M H → va_S (gA B) s.heap H locs → lv_has ls nL (lv.map gq) → va_Run p l e R s m args below meth c H locs k n mc ms (F0 m pc ls (st0.map gv)) (st.map gv) (gQ D cy B H0 v M1 a) (gA B))
    (kk : gGo p l e R s m args below meth c D cy B H0 nL (k + mc) (n + ms) Q (pc + 3) (lv) (v.toList ++ st) (M1)) : gGo p l e R s m args below meth c D cy B H0 nL k n Q (pc) (lv) (st0) (M) := fun H locs ls hW hS hl => by
  intro T hT X
  obtain ⟨v', st₀, t, T', L, h0, X', hL, e1, e2, ⟨hv, hw, hz⟩, hst⟩ := hr H locs ls hW hS hl T hT X
  cases hv
  rw [h0] at hz
  have hS' : va_S (gA B) s.heap T'.heap (locs ++ L) := ⟨Nat.le_trans hS.1 (by rw [e1]; exact hz), fun q h1 h2 => by
    have hq : q < B := Nat.not_le.mp h2
    rw [e1, hw.2.2.1 q hq, ← hS.2.1 q h1 h2, hW.2.2.1 q hq], fun q hq => by
      rcases List.mem_append.mp hq with h | h
      · exact hS.2.2 q h
      · exact hL q h⟩
  obtain ⟨t2, a1, b1⟩ := kk T'.heap (locs ++ L) ls (by rw [e1]; exact hw) hS' hl T' rfl X'
  refine ⟨t2, hst t2 ?_, b1⟩
  have e3 : ((v.toList ++ st).map gv) = (v.map gv).toList ++ st.map gv := by cases v <;> rfl
  rw [e3] at a1
  exact a1
theorem gPre_blind {av : List Value} {M : gMem} : FrameBlind (va_Pc av (gPre D cy B H0 Fs M)) := fun a U g mk q => ⟨q.1, q.2.1, va_K.moved (u := U) (U := U.calling g mk a) (Vm.Alike.refl U.vm) q.2.2.1, q.2.2.2⟩
theorem gPre_at {av : List Value} {H : Heap} {U : State} (X : gX p s m args meth c D cy B Fs own cc ws nL) (hW : gW D cy B H0 M H) (hU : U.heap = H) (hw : s.WarmedH U.vm) : va_Pc av (gPre D cy B H0 Fs M) av.toArray U :=
  ⟨rfl, by rw [hU]; exact hW, va_K.moved hw.alike X.2.2.2.2.2.1, fun V hV => X.2.2.2.2.2.2.2.2 V (State.WarmedH.trans hw hV)⟩
theorem gX_fix (X : gX p s m args meth c D cy B Fs own cc ws nL) : CallFix p m c cc nL s args ws own := ⟨X.1, X.2.1, X.2.2.2.2.1, X.2.2.2.1, X.2.2.1⟩
theorem gW_recv {H : Heap} {ci b : Nat} {C : vw_C} (X : gX p s m args meth c D cy B Fs own cc ws nL) (hW : gW D cy B H0 M H) (hT : mT M b = ci + 1) (hlt : ci + 1 < 20) (hc : vwCl[ci]? = some C) : ∃ cell : Cell, H[b]? = some cell ∧ cell.vm.isStatics = false ∧ s.vm.findClass C.1 = some cell.cls := by
  have h := (hW.2.2.2 b (by omega)).2
  rw [gE_obj hT hlt] at h
  obtain ⟨q', h1, cell, g1, g2, g3, -⟩ := h
  exact ⟨cell, g1, by rw [g3]; rfl, by rw [g2]; exact (X.2.2.2.2.2.1.1 ci C hc).2.1⟩
variable {y : MethodName} {bytes : ByteArray} {maxL mc ms np index : Nat} {ret : Option FieldType} {ws' : List Cond} {rm : Room} {As : List gV} {r : Option Nat} {b ci : Nat} {v : Option gV}
theorem g_callV {C : vw_C} (X : gX p s m args meth c D cy B Fs own cc ws nL) (hM : Met l y ws' rm (va_Pc (Value.ref b :: As.map gv) (gPre D cy B H0 Fs M)) (gQ D cy B H0 v M1) mc ms (gA B)) (cw : CallW R s args own C.1 index y bytes maxL ret ws' rm mc ms np) (hst : stk = As.reverse ++ vR r :: st) (hn : As.length = np) (ha : r = some b) (hT : mT M b = ci + 1) (hlt : ci + 1 < 20) (hc : vwCl[ci]? = some C) (hroom : (st.map gw).sum ≤ 8) (hd : decode cc pc = .ok (.invokevirtual index, 3)) (hf : k + mc ≤ R.cells ∧ n + ms ≤ R.slots)
    (kk : gGo p l e R s m args below meth c D cy B H0 nL (k + mc) (n + ms) Q (pc + 3) (lv) (v.toList ++ st) (M1)) : gGo p l e R s m args below meth c D cy B H0 nL k n Q (pc) (lv) (stk) (M) := by
  subst hst; subst ha
  refine g_run (mc := mc) (ms := ms) (v := v) (a := (Value.ref b :: As.map gv).toArray) (fun H locs ls hW hS hl => ?_) kk
  refine va_runV (As := As.map gv) (rest := st.map gv) (gX_fix X) hM cw ⟨gPre_blind, gW_recv X hW hT hlt hc, fun U hU hw => gPre_at X hW hU hw⟩ rfl (by rw [List.length_map]; exact hn) hl.1 ?_ (groom hroom) hd hf
  show ((As.reverse ++ vR (some b) :: st).map gv) = _
  rw [List.map_append, List.map_reverse]; rfl
/-- of an inherited method (here: ordinal) or of a receiver that is no cell of ours -/
theorem g_callV0 {C : String} (X : gX p s m args meth c D cy B Fs own cc ws nL) (hM : Met l y ws' rm (va_Pc (Value.ref b :: As.map gv) (gPre D cy B H0 Fs M)) (gQ D cy B H0 v M1) mc ms (gA B)) (cw : CallW R s args own C index y bytes maxL ret ws' rm mc ms np) (hst : stk = As.reverse ++ vR r :: st) (hn : As.length = np) (ha : r = some b) (hO : ∀ H : Heap, gW D cy B H0 M H → ∃ cell : Cell, H[b]? = some cell ∧ cell.vm.isStatics = false ∧ s.vm.findClass C = some cell.cls) (hroom : (st.map gw).sum ≤ 8) (hd : decode cc pc = .ok (.invokevirtual index, 3)) (hf : k + mc ≤ R.cells ∧ n + ms ≤ R.slots)
    (kk : gGo p l e R s m args below meth c D cy B H0 nL (k + mc) (n + ms) Q (pc + 3) (lv) (v.toList ++ st) (M1)) : gGo p l e R s m args below meth c D cy B H0 nL k n Q (pc) (lv) (stk) (M) := by
  subst hst; subst ha
  refine g_run (mc := mc) (ms := ms) (v := v) (a := (Value.ref b :: As.map gv).toArray) (fun H locs ls hW hS hl => ?_) kk
  refine va_runV (As := As.map gv) (rest := st.map gv) (gX_fix X) hM cw ⟨gPre_blind, hO H hW, fun U hU hw => gPre_at X hW hU hw⟩ rfl (by rw [List.length_map]; exact hn) hl.1 ?_ (groom hroom) hd hf
  show ((As.reverse ++ vR (some b) :: st).map gv) = _
  rw [List.map_append, List.map_reverse]; rfl
theorem g_callU {C owner : String} {x : MethodName} (X : gX p s m args meth c D cy B Fs own cc ws nL) (hM : Met l y ws' rm (va_Pc (Value.ref b :: As.map gv) (gPre D cy B H0 Fs M)) (gQ D cy B H0 v M1) mc ms (gA B)) (cw : va_CU R s args own C owner index x y bytes maxL ret ws' rm mc ms np) (hst : stk = As.reverse ++ vR r :: st) (hn : As.length = np) (ha : r = some b) (hO : ∀ H : Heap, gW D cy B H0 M H → ∃ cell : Cell, H[b]? = some cell ∧ cell.vm.isStatics = false ∧ s.vm.findClass C = some cell.cls) (hroom : (st.map gw).sum ≤ 8) (hd : decode cc pc = .ok (.invokevirtual index, 3)) (hf : k + mc ≤ R.cells ∧ n + ms ≤ R.slots)
    (kk : gGo p l e R s m args below meth c D cy B H0 nL (k + mc) (n + ms) Q (pc + 3) (lv) (v.toList ++ st) (M1)) : gGo p l e R s m args below meth c D cy B H0 nL k n Q (pc) (lv) (stk) (M) := by
  subst hst; subst ha
  refine g_run (mc := mc) (ms := ms) (v := v) (a := (Value.ref b :: As.map gv).toArray) (fun H locs ls hW hS hl => ?_) kk
  refine va_runU (As := As.map gv) (rest := st.map gv) (gX_fix X) hM cw ⟨gPre_blind, hO H hW, fun U hU hw => gPre_at X hW hU hw⟩ rfl (by rw [List.length_map]; exact hn) hl.1 ?_ (groom hroom) hd hf
  show ((As.reverse ++ vR (some b) :: st).map gv) = _
  rw [List.map_append, List.map_reverse]; rfl
theorem g_callI (X : gX p s m args meth c D cy B Fs own cc ws nL) (hM : Met l y ws' rm (va_Pc (Value.ref b :: As.map gv) (gPre D cy B H0 Fs M)) (gQ D cy B H0 none M1) mc ms (gA B)) (cw : CallB R s args own index y bytes maxL none ws' rm mc ms np ∧ y.name = "<init>" ∧ (Cond.instanceMethod y).before args s = true) (hst : stk = As.reverse ++ vR r :: st) (hn : As.length = np) (ha : r = some b) (hroom : (st.map gw).sum ≤ 8) (hd : decode cc pc = .ok (.invokespecial index, 3)) (hf : k + mc ≤ R.cells ∧ n + ms ≤ R.slots)
    (kk : gGo p l e R s m args below meth c D cy B H0 nL (k + mc) (n + ms) Q (pc + 3) (lv) (st) (M1)) : gGo p l e R s m args below meth c D cy B H0 nL k n Q (pc) (lv) (stk) (M) := by
  subst hst; subst ha
  refine g_run (mc := mc) (ms := ms) (v := none) (a := (Value.ref b :: As.map gv).toArray) (fun H locs ls hW hS hl => ?_) kk
  refine va_runI (As := As.map gv) (rest := st.map gv) (gX_fix X) hM cw ⟨gPre_blind, fun U hU hw => gPre_at X hW hU hw⟩ rfl (by rw [List.length_map]; exact hn) hl.1 ?_ (groom hroom) hd hf
  show ((As.reverse ++ vR (some b) :: st).map gv) = _
  rw [List.map_append, List.map_reverse]; rfl
theorem g_callS (X : gX p s m args meth c D cy B Fs own cc ws nL) (hM : Met l y ws' rm (va_Pc (As.map gv) (gPre D cy B H0 Fs M)) (gQ D cy B H0 v M1) mc ms (gA B)) (cw : CallB R s args own index y bytes maxL ret ws' rm mc ms np ∧ (Cond.static y).before args s = true) (hst : stk = As.reverse ++ st) (hn : As.length = np) (hroom : (st.map gw).sum ≤ 8) (hd : decode cc pc = .ok (.invokestatic index, 3)) (hf : k + mc ≤ R.cells ∧ n + ms ≤ R.slots)
    (kk : gGo p l e R s m args below meth c D cy B H0 nL (k + mc) (n + ms) Q (pc + 3) (lv) (v.toList ++ st) (M1)) : gGo p l e R s m args below meth c D cy B H0 nL k n Q (pc) (lv) (stk) (M) := by
  subst hst
  refine g_run (mc := mc) (ms := ms) (v := v) (a := (As.map gv).toArray) (fun H locs ls hW hS hl => ?_) kk
  refine va_runS (As := As.map gv) (rest := st.map gv) (gX_fix X) hM cw ⟨gPre_blind, fun U hU hw => gPre_at X hW hU hw⟩ rfl (by rw [List.length_map]; exact hn) hl.1 ?_ (groom hroom) hd hf
  show ((As.reverse ++ st).map gv) = _
  rw [List.map_append, List.map_reverse]
theorem g_objInit {idx i9 : Nat} (X : gX p s m args meth c D cy B Fs own cc ws nL) (hl1 : Cond.methodLink own idx objectInit ∈ ws) (hl2 : Cond.instanceMethod objectInit ∈ ws) (hl3 : Cond.code objectInit ⟨#[0xb1]⟩ 1 none ∈ ws) (ha : r = some b) (hd : decode cc pc = .ok (.invokespecial idx, 3)) (hfr : 1 ≤ R.frames) (hroom : (st.map gw).sum + 12 ≤ R.locals) (kk : gGo p l e R s m args below meth c D cy B H0 nL k n Q (pc + 3) (lv) (st) (M)) : gGo p l e R s m args below meth c D cy B H0 nL k n Q (pc) (lv) (vR r :: st) (M) := fun H locs ls hW hS hl => by
  subst ha
  refine W.objInit X.1 X.2.1 X.2.2.2.1 (X.2.2.1 _ hl1) (X.2.2.1 _ hl2) (X.2.2.1 _ hl3) rfl (by rw [X.2.2.2.2.1]; exact hl.1) rfl hd hfr ?_ (kk H locs ls hW hS hl)
  show 2 * 0 + _ + 12 ≤ _
  rw [gcats]; omega
theorem g_min {idx : Nat} {x y : Int32} (X : gX p s m args meth c D cy B Fs own cc ws nL) (h1 : Cond.methodLink own idx Lib.Math.min.name ∈ ws) (h2 : Cond.static Lib.Math.min.name ∈ ws) (h3 : Cond.initialized "java/lang/Math" ∈ ws) (h4 : Cond.code Lib.Math.min.name Lib.Math.min.code 2 (some .int) ∈ ws) (hfr : 1 ≤ R.frames) (hroom : (st.map gw).sum + 13 ≤ R.locals) (hk : k ≤ R.cells ∧ n ≤ R.slots) (hd : decode cc pc = .ok (.invokestatic idx, 3)) (kk : gGo p l e R s m args below meth c D cy B H0 nL k n Q (pc + 3) (lv) (vI (imin x y) :: st) (M)) : gGo p l e R s m args below meth c D cy B H0 nL k n Q (pc) (lv) (vI y :: vI x :: st) (M) := fun H locs ls hW hS hl =>
  va_mmin X.1 X.2.1 (X.2.2.2.2.1.trans hl.1.symm) X.2.2.2.1 (X.2.2.1 _ h1) (X.2.2.1 _ h2) (X.2.2.1 _ h3) (X.2.2.1 _ h4) hfr (by rw [gcats]; exact hroom) hk.1 hk.2 hd (kk H locs ls hW hS hl)
theorem g_max {idx : Nat} {x y : Int32} (X : gX p s m args meth c D cy B Fs own cc ws nL) (h1 : Cond.methodLink own idx Lib.Math.max.name ∈ ws) (h2 : Cond.static Lib.Math.max.name ∈ ws) (h3 : Cond.initialized "java/lang/Math" ∈ ws) (h4 : Cond.code Lib.Math.max.name Lib.Math.max.code 2 (some .int) ∈ ws) (hfr : 1 ≤ R.frames) (hroom : (st.map gw).sum + 13 ≤ R.locals) (hk : k ≤ R.cells ∧ n ≤ R.slots) (hd : decode cc pc = .ok (.invokestatic idx, 3)) (kk : gGo p l e R s m args below meth c D cy B H0 nL k n Q (pc + 3) (lv) (vI (imax x y) :: st) (M)) : gGo p l e R s m args below meth c D cy B H0 nL k n Q (pc) (lv) (vI y :: vI x :: st) (M) := fun H locs ls hW hS hl =>
  va_mmax X.1 X.2.1 (X.2.2.2.2.1.trans hl.1.symm) X.2.2.2.1 (X.2.2.1 _ h1) (X.2.2.1 _ h2) (X.2.2.1 _ h3) (X.2.2.1 _ h4) hfr (by rw [gcats]; exact hroom) hk.1 hk.2 hd (kk H locs ls hW hS hl)
theorem gW_new {H H1 : Heap} {t z : Nat} (hW : gW D cy B H0 M H) (z1 : H1.size = H.size + 1) (o1 : ∀ q, q < H.size → H1[q]? = H[q]?) (e : va_at D vwCl (mN M, gE cy (nW M t z) (mN M)) H1) : gW D cy B H0 (nW M t z) H1 := by
  obtain ⟨w1, w2, w3, w4⟩ := hW
  refine ⟨by rw [z1, w1]; rfl, Nat.le_succ_of_le w2, fun q hq => by rw [o1 q (by omega)]; exact w3 q hq, fun a ha => ?_⟩
  by_cases h : a = mN M
  · subst h; exact ⟨w2, e⟩
  · have hT : mT (nW M t z) a = mT M a := by simp [nW, mT, up1, h]
    rw [hT] at ha
    refine ⟨(w4 a ha).1, ?_⟩
    rw [gE_congr (M := M) (M' := nW M t z) (cy := cy) hT (by simp [nW, mL, up1, h]) (by simp [nW, mI, up1, h]) (by simp [nW, mR, up1, h]) (by simp [nW, mJ, up1, h])]
    exact (w4 a ha).2.kept (o1 a ((w4 a ha).2.lt))
theorem gS_new {H H1 : Heap} {locs : List Loc} (hS : va_S (gA B) s.heap H locs) (z1 : H1.size = H.size + 1) (o1 : ∀ q, q < H.size → H1[q]? = H[q]?) : va_S (gA B) s.heap H1 locs :=
  ⟨Nat.le_trans hS.1 (by omega), fun x h1 h2 => (o1 x (Nat.lt_of_lt_of_le h1 hS.1)).trans (hS.2.1 x h1 h2), hS.2.2⟩
theorem gFl_new : ∀ (l : List (Option Bool)) (o j : Nat) (t z : Nat), vp_V (gFl (nW M t z) (mN M) l o) j = (match l[j]? with | some (some false) => Value.int 0 | some none => Value.long 0 | _ => Value.null)
  | [], o, j, t, z => by simp [gFl, vp_V]
  | some true :: r, o, 0, t, z => by simp [gFl, vp_V, nW, mR, up1, va_rf]
  | some false :: r, o, 0, t, z => by simp [gFl, vp_V, nW, mI, up1]
  | some true :: r, o, j + 1, t, z => by
    have := gFl_new r (o + 1) j t z
    simp only [gFl, vp_V, List.getD_cons_succ, List.getElem?_cons_succ] at this ⊢; exact this
  | some false :: r, o, j + 1, t, z => by
    have := gFl_new r (o + 1) j t z
    simp only [gFl, vp_V, List.getD_cons_succ, List.getElem?_cons_succ] at this ⊢; exact this
  | none :: r, o, 0, t, z => by simp [gFl, vp_V, nW, mJ, up1]
  | none :: r, o, j + 1, t, z => by
    have := gFl_new r (o + 1) j t z
    simp only [gFl, vp_V, List.getD_cons_succ, List.getElem?_cons_succ] at this ⊢; exact this
theorem g_new {C : String} {Tt : u_T} {N j : Nat} {ty : Nat → FieldType} (X : gX p s m args meth c D cy B Fs own cc ws nL) (hC : gCD ci C Tt N ty) (hin : ∀ w ∈ u_ws C Tt N, w ∈ ws) (h1 : Cond.classLink own j C ∈ ws) (h2 : Cond.instantiable C N ∈ ws) (h3 : Cond.initialized C ∈ ws) (hdef : ∀ i, i < N → defaultValue (ty i) = (match (gLay (ci + 1))[i]? with | some (some false) => Value.int 0 | some none => Value.long 0 | _ => Value.null)) (hk : k + 1 ≤ R.cells ∧ n + N ≤ R.slots) (hd : decode cc pc = .ok (.new j, 3))
    (kk : gGo p l e R s m args below meth c D cy B H0 nL (k + 1) (n + N) Q (pc + 3) (lv) (vR (some (mN M)) :: st) (nW M (ci + 1) 0)) : gGo p l e R s m args below meth c D cy B H0 nL k n Q (pc) (lv) (st) (M) := fun H locs ls hW hS hl => by
  obtain ⟨hcl, hty, hnm, hlt, hlen⟩ := hC
  have hKn := X.2.2.2.2.2.1.1 ci _ hcl
  refine W.newcK X.1 X.2.1 X.2.2.2.1 (X.2.2.1 _ h1) (X.2.2.1 _ h2) (X.2.2.1 _ h3) rfl hd hk.1 hk.2 hKn.2.1 rfl fun H1 kC hkC e1 z1 o1 => ?_
  have hN : H.size = mN M := hW.1
  refine W.eq (g2 := F0 m (pc + 3) ls ((vR (some (mN M)) :: st).map gv)) (by rw [← hN]; rfl) (kk H1 locs ls (gW_new hW z1 o1 ?_) (gS_new hS z1 o1) hl)
  rw [gE_obj (M := nW M (ci + 1) 0) (a := mN M) (ci := ci) (by simp [nW, mT, up1]) hlt]
  refine ⟨_, hcl, ?_⟩
  rw [← hN]
  refine (u_born ty X.2.2.1 hin hKn hkC e1 hty).to fun i hi => ?_
  show defaultValue (ty i) = vp_V (gFl (nW M (ci + 1) 0) H.size (gLay (ci + 1)) 0) i
  rw [hN, gFl_new, hdef i hi]
theorem g_newa {at' : ArrayType} {t0 t : Nat} {z : Int32} (X : gX p s m args meth c D cy B Fs own cc ws nL) (h1 : Cond.arrayClass (newarray.typeOf at') ∈ ws) (hcase : (at' = .int ∧ t = 20) ∨ (at' = .long ∧ t = 21) ∨ (at' = .byte ∧ t = 22) ∨ (at' = .boolean ∧ t = 29)) (hz : ¬ z < 0) (hb : z.toNatClampNeg ≤ 60000000) (hk : k + 1 ≤ R.cells ∧ n + z.toNatClampNeg ≤ R.slots) (hd : decode cc pc = .ok (.newarray at', 2))
    (kk : gGo p l e R s m args below meth c D cy B H0 nL (k + 1) (n + z.toNatClampNeg) Q (pc + 2) (lv) (vR (some (mN M)) :: st) (nW M t z.toNatClampNeg)) : gGo p l e R s m args below meth c D cy B H0 nL k n Q (pc) (lv) (vI z :: st) (M) := fun H locs ls hW hS hl => by
  have hN : H.size = mN M := hW.1
  refine va_newaK (n := z) (N := z.toNatClampNeg) X.1 X.2.1 (X.2.2.1 _ h1) rfl hd rfl hz rfl ?_ hk.1 hk.2 hN fun H1 cA e1 z1 o1 hAr hNm => ?_
  · rcases hcase with ⟨rfl, -⟩ | ⟨rfl, -⟩ | ⟨rfl, -⟩ | ⟨rfl, -⟩ <;> (show z.toNatClampNeg * _ ≤ _) <;> (simp only [newarray.typeOf, componentBytes]; omega)
  · rw [← hN] at z1 o1
    refine kk H1 locs ls (gW_new hW z1 o1 ?_) (gS_new hS z1 o1) hl
    have hTys := X.2.2.2.2.2.1.2
    rcases hcase with ⟨rfl, rfl⟩ | ⟨rfl, rfl⟩ | ⟨rfl, rfl⟩ | ⟨rfl, rfl⟩
    · have h9 : cA = cy 20 := Option.some.inj (hNm.symm.trans (hTys 0 _ rfl).2)
      rw [gE_int (M := nW M 20 _) (by simp [nW, mT, up1]), ← h9]
      show H1[mN M]? = some (vp_cell _ _)
      rw [e1]; simp [nW, mL, mI, up1, vp_cell, newarray.typeOf, defaultValue]
    · have h9 : cA = cy 21 := Option.some.inj (hNm.symm.trans (hTys 1 _ rfl).2)
      rw [gE_long (M := nW M 21 _) (by simp [nW, mT, up1]), ← h9]
      show H1[mN M]? = some (vp_cell _ _)
      rw [e1]; simp [nW, mL, mJ, up1, vp_cell, newarray.typeOf, defaultValue]
    · have h9 : cA = cy 22 := Option.some.inj (hNm.symm.trans (hTys 2 _ rfl).2)
      rw [gE_byte (M := nW M 22 _) (by simp [nW, mT, up1]), ← h9]
      show H1[mN M]? = some (vp_cell _ _)
      rw [e1]; simp [nW, mL, mI, up1, vp_cell, newarray.typeOf, defaultValue]
    · have h9 : cA = cy 29 := Option.some.inj (hNm.symm.trans (hTys 9 _ rfl).2)
      rw [gE_bool (M := nW M 29 _) (by simp [nW, mT, up1]), ← h9]
      show H1[mN M]? = some (vp_cell _ _)
      rw [e1]; simp [nW, mL, mI, up1, vp_cell, newarray.typeOf, defaultValue]
theorem gX_st (X : gX p s m args meth c D cy B Fs own cc ws nL) : Fs s := X.2.2.2.2.2.2.2.2 s (State.WarmedH.refl s)
/-- a nest mate's private field -/
theorem g_getN {C ref host : String} {Tt : u_T} {N : Nat} {ty : Nat → FieldType} {j a : Nat} {w : gV} (f : Nat) (X : gX p s m args meth c D cy B Fs own cc ws nL) (hC : gCD ci C Tt N ty) (hin : ∀ w ∈ u_ws C Tt N, w ∈ ws) (hf : f < N) (hlk : va_Nw (Cond.fieldLinkNest own j ref (Tt f).2.1 (Tt f).2.2.1 host) s) (href : (Tt f).1 = ref) (hd : decode cc pc = .ok (.getfield j, 3)) (ha : r = some a) (hT : mT M a = ci + 1) (hv : (gFl M a (gLay (ci + 1)) 0)[f]? = some (gv w)) (kk : gGo p l e R s m args below meth c D cy B H0 nL k n Q (pc + 3) (lv) (w :: st) (M)) : gGo p l e R s m args below meth c D cy B H0 nL k n Q (pc) (lv) (vR r :: st) (M) := fun H locs ls hW hS hl => by
  subst ha
  exact va_getN (D := D) (ci := ci) (C := C) (T := Tt) (N := N) X.1 X.2.1 X.2.2.1 hin X.2.2.2.1 X.2.2.2.2.2.1 (gW_P hW (by omega) (gE_obj hT hC.2.2.2.1)) 0 rfl hC.1 f hf (va_Nw.use rfl hlk) (fun x h => href ▸ h) hv hd (kk H locs ls hW hS hl)
theorem g_putVN {C ref host : String} {Tt : u_T} {N : Nat} {ty : Nat → FieldType} {j a : Nat} {w : gV} {M' : gMem} (f : Nat) (X : gX p s m args meth c D cy B Fs own cc ws nL) (hC : gCD ci C Tt N ty) (hin : ∀ w ∈ u_ws C Tt N, w ∈ ws) (hf : f < N) (hlk : va_Nw (Cond.fieldLinkNest own j ref (Tt f).2.1 (Tt f).2.2.1 host) s) (href : (Tt f).1 = ref) (hd : decode cc pc = .ok (.putfield j, 3)) (ha : r = some a) (hT : mT M a = ci + 1)
    (hfin : (Tt f).2.2.2 = false) (hn : narrow (ty f) (gv w) = gv w) (hfit : fits (ty f) (gv w) = true)
    (hE : gE cy M' a = .inr (ci, (gFl M a (gLay (ci + 1)) 0).set f (gv w))) (hE' : ∀ b, b ≠ a → gE cy M' b = gE cy M b) (hN : mN M' = mN M) (h0 : mT M' = mT M)
    (kk : gGo p l e R s m args below meth c D cy B H0 nL k n Q (pc + 3) (lv) (st) (M')) : gGo p l e R s m args below meth c D cy B H0 nL k n Q (pc) (lv) (w :: vR r :: st) (M) := fun H locs ls hW hS hl => by
  subst ha
  have hTn : mT M a ≠ 0 := by omega
  obtain ⟨hcl, hty, hnm, hlt, hlen⟩ := hC
  obtain ⟨hx, hb, hts, hown, hml, hK, hB, hlk2, hFs⟩ := X
  have hat := (hW.2.2.2 a hTn).2
  rw [gE_obj hT hlt] at hat
  have hap := va_apart (own := own) hts hin ty hty hnm hK hcl
  obtain ⟨r, h1, cell, q1, q2, q3, q4⟩ := hat
  have hr : r = (C, Tt, N) := Option.some.inj (h1.symm.trans hcl)
  subst hr
  obtain ⟨hSl, hfc, kC, hkC, hkind⟩ := hK.1 ci _ hcl
  obtain ⟨cf, kf, fi, fd, hi, hsl⟩ := hSl f hf
  have hlay := hts _ (hin _ (u_in_lay hf))
  unfold u_lay at hlay
  rw [if_neg (by rw [hfin]; decide)] at hlay
  have hst := (u_facts hfc hkC (u_lays hts hin hf) hi).1
  have hl2 : f < (gFl M a (gLay (ci + 1)) 0).length := by rw [gFl_len, ← hlen]; exact hf
  have h6 := u_store hfc hkC hkind hlay hi (hty f hf) hn hfit
  exact va_WputK hx hb (f := fd) hown (va_Nw.use rfl hlk) (href ▸ hi) hst (by rw [q2]; exact h6) q1 q3 (by rw [hsl]; exact k2_hasslot (q4 f hf)) rfl rfl hd fun H' e1 e2 e3 => by
    rw [hsl] at e1
    refine kk H' _ ls (gW_set hW hTn ?_ e2 e3 hN h0 hE') (hS.put e2 e3 (hW.2.2.2 a hTn).1) hl
    rw [hE]
    exact ⟨_, hcl, t_OB.to (V := updV (vp_V _) f (gv w)) ⟨_, e1, q2, q3, t_set q4 hap hf (gv w)⟩ (fun j _ => vp_updV_set hl2 (gv w) j)⟩
theorem g_putIN {C ref host : String} {Tt : u_T} {N : Nat} {ty : Nat → FieldType} {j a : Nat} {w : Int32} (f : Nat) (X : gX p s m args meth c D cy B Fs own cc ws nL) (hC : gCD ci C Tt N ty) (hin : ∀ w ∈ u_ws C Tt N, w ∈ ws) (hf : f < N) (hlk : va_Nw (Cond.fieldLinkNest own j ref (Tt f).2.1 (Tt f).2.2.1 host) s) (href : (Tt f).1 = ref) (hd : decode cc pc = .ok (.putfield j, 3)) (ha : r = some a) (hT : mT M a = ci + 1)
    (hfin : (Tt f).2.2.2 = false) (hn : narrow (ty f) (.int w) = .int w) (hfit : fits (ty f) (.int w) = true) (hlay : (gLay (ci + 1))[f]? = some (some false))
    (kk : gGo p l e R s m args below meth c D cy B H0 nL k n Q (pc + 3) (lv) (st) (wI M a f w)) : gGo p l e R s m args below meth c D cy B H0 nL k n Q (pc) (lv) (vI w :: vR r :: st) (M) :=
  g_putVN f X hC hin hf hlk href hd ha hT hfin hn hfit (by rw [gE_obj (M := wI M a f w) hT hC.2.2.2.1, show wI M a f w = wI M a (0 + f) w by rw [Nat.zero_add], gFl_I _ 0 f hlay]; rfl) (fun b hb => gE_wI hb) rfl rfl kk
theorem g_callIN {host : String} (X : gX p s m args meth c D cy B Fs own cc ws nL) (hM : Met l y ws' rm (va_Pc (Value.ref b :: As.map gv) (gPre D cy B H0 Fs M)) (gQ D cy B H0 none M1) mc ms (gA B)) (cw : va_CN R s args own index y host bytes maxL none ws' rm mc ms np ∧ y.name = "<init>" ∧ (Cond.instanceMethod y).before args s = true) (hst : stk = As.reverse ++ vR r :: st) (hn : As.length = np) (ha : r = some b) (hroom : (st.map gw).sum ≤ 8) (hd : decode cc pc = .ok (.invokespecial index, 3)) (hf : k + mc ≤ R.cells ∧ n + ms ≤ R.slots)
    (kk : gGo p l e R s m args below meth c D cy B H0 nL (k + mc) (n + ms) Q (pc + 3) (lv) (st) (M1)) : gGo p l e R s m args below meth c D cy B H0 nL k n Q (pc) (lv) (stk) (M) := by
  subst hst; subst ha
  refine g_run (mc := mc) (ms := ms) (v := none) (a := (Value.ref b :: As.map gv).toArray) (fun H locs ls hW hS hl => ?_) kk
  refine va_runIN (As := As.map gv) (rest := st.map gv) (gX_fix X) hM cw ⟨gPre_blind, fun U hU hw => gPre_at X hW hU hw⟩ rfl (by rw [List.length_map]; exact hn) hl.1 ?_ (groom hroom) hd hf
  show ((As.reverse ++ vR (some b) :: st).map gv) = _
  rw [List.map_append, List.map_reverse]; rfl
theorem g_callSN {host : String} (X : gX p s m args meth c D cy B Fs own cc ws nL) (hM : Met l y ws' rm (va_Pc (As.map gv) (gPre D cy B H0 Fs M)) (gQ D cy B H0 v M1) mc ms (gA B)) (cw : va_CN R s args own index y host bytes maxL ret ws' rm mc ms np ∧ (Cond.static y).before args s = true ∧ True) (hst : stk = As.reverse ++ st) (hn : As.length = np) (hroom : (st.map gw).sum ≤ 8) (hd : decode cc pc = .ok (.invokestatic index, 3)) (hf : k + mc ≤ R.cells ∧ n + ms ≤ R.slots)
    (kk : gGo p l e R s m args below meth c D cy B H0 nL (k + mc) (n + ms) Q (pc + 3) (lv) (v.toList ++ st) (M1)) : gGo p l e R s m args below meth c D cy B H0 nL k n Q (pc) (lv) (stk) (M) := by
  subst hst
  refine g_run (mc := mc) (ms := ms) (v := v) (a := (As.map gv).toArray) (fun H locs ls hW hS hl => ?_) kk
  refine va_runSN (As := As.map gv) (rest := st.map gv) (gX_fix X) hM cw ⟨gPre_blind, fun U hU hw => gPre_at X hW hU hw⟩ rfl (by rw [List.length_map]; exact hn) hl.1 ?_ (groom hroom) hd hf
  show ((As.reverse ++ st).map gv) = _
  rw [List.map_append, List.map_reverse]
/-- a static field that nobody writes -/
theorem g_gets {C nm ds ref : String} {w : gV} (X : gX p s m args meth c D cy B Fs own cc ws nL) (hZ : va_Z C nm ds (gv w) (gA B) s H0) (hlk : Cond.fieldLink own index ref nm ds ∈ ws) (href : C = ref) (hd : decode cc pc = .ok (.getstatic index, 3)) (kk : gGo p l e R s m args below meth c D cy B H0 nL k n Q (pc + 3) (lv) (w :: st) (M)) : gGo p l e R s m args below meth c D cy B H0 nL k n Q (pc) (lv) (st) (M) := fun H locs ls hW hS hl => by
  subst href
  obtain ⟨cf, kf, fi, f, a, cell, h1, h2, h3, h4, h5, h6, h7, h8⟩ := hZ
  exact W.gets X.1 X.2.1 X.2.2.2.1 (X.2.2.1 _ hlk) h1 h2 h3 h4 (by rw [hW.2.2.1 a (Nat.not_le.mp h8)]; exact h5) (fun e => by rw [e] at h6; cases h6) h7 rfl hd (kk H locs ls hW hS hl)
/-- an int out of a static row -/
theorem g_ialdT {t N : Nat} {f : Nat → Value} {i w : Int32} (X : gX p s m args meth c D cy B Fs own cc ws nL) (hTt : va_T .int t N f (gA B) s H0) (hr : r = some t) (hi : ¬ i < 0) (hlt : i.toNatClampNeg < N) (hw : f i.toNatClampNeg = .int w) (hd : decode cc pc = .ok (.iaload, 1)) (kk : gGo p l e R s m args below meth c D cy B H0 nL k n Q (pc + 1) (lv) (vI w :: st) (M)) : gGo p l e R s m args below meth c D cy B H0 nL k n Q (pc) (lv) (vI i :: vR r :: st) (M) := fun H locs ls hW hS hl => by
  subst hr
  obtain ⟨cell, h1, h2, h3, h4, h5, h6, h7⟩ := hTt
  exact W.iald (v := .int w) X.1 X.2.1 (by rw [hW.2.2.1 t (Nat.not_le.mp h7)]; exact h1) h2 h3 (fun q => by rcases q with q | q; exact hi q; omega) (by rw [h6 _ hlt, hw]) rfl rfl hd (kk H locs ls hW hS hl)
theorem g_aaldT {t N : Nat} {C : String} {f : Nat → Value} {i : Int32} {w : Option Nat} (X : gX p s m args meth c D cy B Fs own cc ws nL) (hTt : va_T (.object C) t N f (gA B) s H0) (hr : r = some t) (hi : ¬ i < 0) (hlt : i.toNatClampNeg < N) (hw : f i.toNatClampNeg = va_rf w) (hd : decode cc pc = .ok (.aaload, 1)) (kk : gGo p l e R s m args below meth c D cy B H0 nL k n Q (pc + 1) (lv) (vR w :: st) (M)) : gGo p l e R s m args below meth c D cy B H0 nL k n Q (pc) (lv) (vI i :: vR r :: st) (M) := fun H locs ls hW hS hl => by
  subst hr
  obtain ⟨cell, h1, h2, h3, h4, h5, h6, h7⟩ := hTt
  exact W.aald (v := va_rf w) (ty := .object C) X.1 X.2.1 (by rw [hW.2.2.1 t (Nat.not_le.mp h7)]; exact h1) h2 rfl h3 (fun q => by rcases q with q | q; exact hi q; omega) (by rw [h6 _ hlt, hw]) rfl rfl hd (kk H locs ls hW hS hl)
theorem g_alenT {t N : Nat} {ty : FieldType} {f : Nat → Value} (X : gX p s m args meth c D cy B Fs own cc ws nL) (hTt : va_T ty t N f (gA B) s H0) (hr : r = some t) (hd : decode cc pc = .ok (.arraylength, 1)) (kk : gGo p l e R s m args below meth c D cy B H0 nL k n Q (pc + 1) (lv) (vI (Int32.ofNat N) :: st) (M)) : gGo p l e R s m args below meth c D cy B H0 nL k n Q (pc) (lv) (vR r :: st) (M) := fun H locs ls hW hS hl => by
  subst hr
  obtain ⟨cell, h1, h2, h3, h4, h5, h6, h7⟩ := hTt
  exact W.alen X.1 X.2.1 (by rw [hW.2.2.1 t (Nat.not_le.mp h7)]; exact h1) h2 h5 rfl rfl hd (kk H locs ls hW hS hl)
/-- a field of an object that was there before the law began -/
theorem g_getO {o nm ds ref : String} {t : Nat} {w : gV} (X : gX p s m args meth c D cy B Fs own cc ws nL) (hO : va_OF o nm ds (gv w) t (gA B) s H0) (hr : r = some t) (hlk : Cond.fieldLink own index ref nm ds ∈ ws) (href : o = ref) (hd : decode cc pc = .ok (.getfield index, 3)) (kk : gGo p l e R s m args below meth c D cy B H0 nL k n Q (pc + 3) (lv) (w :: st) (M)) : gGo p l e R s m args below meth c D cy B H0 nL k n Q (pc) (lv) (vR r :: st) (M) := fun H locs ls hW hS hl => by
  subst hr; subst href
  obtain ⟨cf, kf, fi, f, cell, h1, h2, h3, h4, h5, h6⟩ := hO
  exact W.getf X.1 X.2.1 X.2.2.2.1 (X.2.2.1 _ hlk) h1 h2 (by rw [hW.2.2.1 t (Nat.not_le.mp h6)]; exact h3) h4 h5 rfl rfl hd (kk H locs ls hW hS hl)
theorem gO_recv {E : String} {t : Nat} {H : Heap} (hO : va_O E t (gA B) s H0) (hW : gW D cy B H0 M H) : ∃ cell : Cell, H[t]? = some cell ∧ cell.vm.isStatics = false ∧ s.vm.findClass E = some cell.cls := by
  obtain ⟨cell, h1, h2, h3, h4⟩ := hO
  exact ⟨cell, by rw [hW.2.2.1 t (Nat.not_le.mp h4)]; exact h1, h2, h3⟩
end GCALL
