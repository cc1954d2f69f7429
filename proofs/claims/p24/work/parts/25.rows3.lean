/-! Rows, third part: arrays of arrays, throws, calls of methods that may throw -/
section G3
variable {p : Program} {l : Launch} {e : Env} {R : Room} {s : State} {m : MethodId} {args : Array Value} {below : List Frame} {meth : Method} {c : Code} {D : va_G} {cy : Nat → ClassId} {B : Nat} {H0 : Heap} {Z : Nat → Nat} {Fs : State → Prop} {own : String} {cc : ByteArray} {ws : List Cond} {nL k n pc : Nat} {Q : State → Prop} {lv lv' : List (Nat × gV)} {st stk : List gV} {M M1 : gMem}
theorem g_anewA {idx : Nat} {z : Int32} (X : gX p s m args meth c D cy B Fs own cc ws nL) (hAO : va_Nw (Cond.arrayOver (.array .int)) s) (h1 : Cond.classLink own idx "[I" ∈ ws) (hz : ¬ z < 0) (hb : z.toNatClampNeg ≤ 60000000) (hk : k + 1 ≤ R.cells ∧ n + z.toNatClampNeg ≤ R.slots) (hd : decode cc pc = .ok (.anewarray idx, 3))
    (kk : gGo p l e R s m args below meth c D cy B H0 nL (k + 1) (n + z.toNatClampNeg) Q (pc + 3) (lv) (vR (some (mN M)) :: st) (nW M 28 z.toNatClampNeg)) : gGo p l e R s m args below meth c D cy B H0 nL k n Q (pc) (lv) (vI z :: st) (M) := fun H locs ls hW hS hl => by
  have hN : H.size = mN M := hW.1
  refine W.anewA (t := .int) X.1 X.2.1 X.2.2.2.1 (X.2.2.1 _ h1) hAO rfl hd rfl hz (by omega) hk.1 hk.2 fun cA kA comp f1 f2 f3 f4 => ?_
  generalize hH1 : H.push ({ cls := cA, slots := Array.replicate z.toNatClampNeg .null, vm := .none } : Cell) = H1
  have z1 : H1.size = H.size + 1 := by rw [← hH1, Array.size_push]
  have e1 : H1[H.size]? = some (arrV cA z.toNatClampNeg (fun _ => .null)) := by rw [← hH1, Array.getElem?_push_size, ← arrV_new]
  have o1 : ∀ q : Nat, q < H.size → H1[q]? = H[q]? := fun q hq => by rw [← hH1, Array.getElem?_push, if_neg (Nat.ne_of_lt hq)]
  refine W.eq (g2 := F0 m (pc + 3) ls ((vR (some (mN M)) :: st).map gv)) (by rw [← hN]; rfl) (kk H1 locs ls (gW_new hW z1 o1 ?_) (gS_new hS z1 o1) hl)
  have h9 : cA = cy 28 := Option.some.inj (f1.symm.trans (X.2.2.2.2.2.1.2 8 _ rfl).2)
  rw [gE_ref (M := nW M 28 z.toNatClampNeg) (t := 28) (by simp [nW, mT, up1]) (by decide), ← h9]
  show H1[mN M]? = some (vp_cell _ _)
  rw [vp_cell_q, ← hN, e1, hN]
  simp [nW, mL, mR, up1, va_rf]
theorem g_aaldA {a : Nat} {r : Option Nat} {i : Int32} (X : gX p s m args meth c D cy B Fs own cc ws nL) (hd : decode cc pc = .ok (.aaload, 1)) (ha : r = some a) (hT : mT M a = 28) (hin : vp_in i (mL M a)) (kk : gGo p l e R s m args below meth c D cy B H0 nL k n Q (pc + 1) (lv) (vR (mR M a i.toNatClampNeg) :: st) (M)) : gGo p l e R s m args below meth c D cy B H0 nL k n Q (pc) (lv) (vI i :: vR r :: st) (M) := fun H locs ls hW hS hl => by
  subst ha
  have hlt : i.toNatClampNeg < mL M a := Nat.not_le.mp fun q => hin (Or.inr q)
  have hat := (hW.2.2.2 a (by omega)).2
  rw [gE_ref hT (by decide)] at hat
  exact W.aald (v := va_rf (mR M a i.toNatClampNeg)) (ty := .array .int) X.1 X.2.1 hat ((X.2.2.2.2.2.1.2 8 _ rfl).1 (mL M a) (fun j => va_rf (mR M a j))) rfl (fun q => by cases q) (by show ¬ (i < 0 ∨ (arrV _ _ _).slots.size ≤ _); rw [arrV_size]; exact hin) (by show (arrV _ _ _).slots[_]? = _; rw [arrV_read _ _ hlt]) rfl rfl hd (kk H locs ls hW hS hl)
theorem g_aastA {a b : Nat} {r v : Option Nat} {i : Int32} (X : gX p s m args meth c D cy B Fs own cc ws nL) (hAO : va_Nw (Cond.arrayOver (.array .int)) s) (hd : decode cc pc = .ok (.aastore, 1)) (ha : r = some a) (hT : mT M a = 28) (hin : vp_in i (mL M a)) (hv : v = some b) (hb : mT M b = 20) (kk : gGo p l e R s m args below meth c D cy B H0 nL k n Q (pc + 1) (lv) (st) (wR M a i.toNatClampNeg v)) : gGo p l e R s m args below meth c D cy B H0 nL k n Q (pc) (lv) (vR v :: vI i :: vR r :: st) (M) := fun H locs ls hW hS hl => by
  subst ha
  subst hv
  have hTn : mT M a ≠ 0 := by omega
  have hat := (hW.2.2.2 a hTn).2
  rw [gE_ref hT (by decide)] at hat
  have hbt := (hW.2.2.2 b (by omega)).2
  rw [gE_int hb] at hbt
  have hi : i.toNatClampNeg < mL M a := Nat.not_le.mp fun q => hin (Or.inr q)
  have h0 : ¬ i < 0 := fun q => hin (Or.inl q)
  obtain ⟨comp, cA, kA, q1, -, q3, q4, q5⟩ := arrayOverA_spec (args := #[]) (first := s) (o := none) (idx := []) hAO
  have h28 : cA = cy 28 := Option.some.inj (q5.symm.trans (X.2.2.2.2.2.1.2 8 _ rfl).2)
  have h20 : comp = cy 20 := Option.some.inj (q1.symm.trans (X.2.2.2.2.2.1.2 0 _ rfl).2)
  subst h28
  subst h20
  obtain ⟨-, kI, hkI, cI, hkindI⟩ := (X.2.2.2.2.2.1.2 0 _ rfl).1 (mL M b) (fun j => .int (mI M b j))
  have hself : s.vm.assignable (cy 20) (cy 20) = true := by
    show s.vm.assignableAux (255 + 1) (cy 20) (cy 20) = true
    rw [Vm.assignableAux]
    simp only [beq_self_eq_true, Bool.true_or]
  refine W.aast X.1 X.2.1 hat (fun q h => by cases h) (fun h => by cases h) q3 q4 rfl hkI ⟨h0, by show _ < (arrV _ _ _).slots.size; rw [arrV_size]; exact hi⟩ hbt (fun q h => by cases h) hkI hself rfl rfl hd fun H1 e z oq => ?_
  refine kk H1 _ ls (gW_set hW hTn ?_ z oq rfl rfl (fun b hb => gE_wR hb)) (hS.put z oq (hW.2.2.2 a hTn).1) hl
  rw [gE_ref (M := wR M a i.toNatClampNeg (some b)) hT (by decide)]
  show H1[a]? = some (vp_cell _ _)
  rw [e]
  rw [vp_cell_q, vp_cell_q, arrV_store]
  congr 2
  funext q
  by_cases hq : q = i.toNatClampNeg
  · subst hq
    simp [updV, wR, mR, up2, va_rf]
  · simp [updV, wR, mR, up2, hq]
/-- what a method that may throw owes -/
abbrev gMX (below : List Frame) (D : va_G) (cy : Nat → ClassId) (B : Nat) (H0 : Heap) (args : Array Value) (s : State) (k n : Nat) (z : Nat ⊕ Option gV) (M : gMem) : State → Prop := vx_MQ below (gQX D cy B H0 z M) (gXC D cy B H0 z M) args s k n (gA B)
theorem g_xret {v : Option gV} (kk : gGo p l e R s m args below meth c D cy B H0 nL k n (gMQ below D cy B H0 args s k n v M1) (pc) (lv) (st) (M)) : gGo p l e R s m args below meth c D cy B H0 nL k n (gMX below D cy B H0 args s k n (.inr v) M1) (pc) (lv) (st) (M) := fun H locs ls hW hS hl => vx_ret fun T hT X => by
  obtain ⟨t, a1, o, b1, b2, b3, b4⟩ := kk H locs ls hW hS hl T hT X
  exact ⟨t, a1, o, b1, b2, ⟨v, rfl, b3⟩, b4⟩
theorem g_throwS {x ik is ic : Nat} {cls text : String} {k' n' : Nat} (X : gX p s m args meth c D cy B (gSt2 Z B H0) own cc ws nL) (hlx : l.stackTraces = false) (hH : ∀ q : Nat, q < B → s.heap[q]? = H0[q]?) (hH0 : H0.size = B) (hne : ∀ x ∈ c.exceptionTable.toList, False) (hcls : Bundle.fit cls = true) (hk : Cond.classLink own ik cls ∈ ws) (hini : Cond.initialized cls ∈ ws) (htx : (own, is, text) ∈ gTxt) (hat : ∀ w ∈ (vx_atS own ic cls ["java/lang/RuntimeException", "java/lang/Exception"]).filter goodWord, w ∈ ws) (hxw : ∀ w ∈ (vx_atS own ic cls ["java/lang/RuntimeException", "java/lang/Exception"]).filter (fun w => !goodWord w), w ∈ gN2 ∧ w.onTables = true)
    (hgood : ∀ w ∈ Cond.classLink own ik cls :: Cond.initialized cls :: vx_atS own ic cls ["java/lang/RuntimeException", "java/lang/Exception"], vx_ot w = true) (hx : exName x = cls)
    (d0 : decode cc pc = .ok (.new ik, 3)) (d3 : decode cc (pc + 3) = .ok (.dup, 1)) (d4 : decode cc (pc + 4) = .ok (.ldc is, 2)) (d6 : decode cc (pc + 6) = .ok (.invokespecial ic, 3)) (d9 : decode cc (pc + 9) = .ok (.athrow, 1))
    (hfr : 6 ≤ R.frames) (hlo : (st.map gw).sum + 82 ≤ R.locals) (hkc : k + 1 ≤ R.cells) (hns : n + 6 ≤ R.slots) (hk' : k + 1 ≤ k') (hn' : n + 6 ≤ n') : gGo p l e R s m args below meth c D cy B H0 nL k n (gMX below D cy B H0 args s k' n' (.inl x) M) (pc) (lv) (st) (M) := fun H locs ls hW hS hl => by
  obtain ⟨sa, hsa⟩ := (gX_st X).2.2.1 _ htx
  have hkept : ∀ a : Nat, a < H0.size → ¬ gA B a → s.heap[a]? = H0[a]? := fun a h1 h2 => hH a (by omega)
  have hhat : ∀ w ∈ vx_atS own ic cls ["java/lang/RuntimeException", "java/lang/Exception"], w.before args s = true := by
    intro w hw
    by_cases g : goodWord w = true
    · exact X.2.2.1 w (hat w (List.mem_filter.mpr ⟨hw, g⟩))
    · obtain ⟨h1, h2⟩ := hxw w (List.mem_filter.mpr ⟨hw, by cases hg : goodWord w; rfl; exact absurd hg g⟩)
      exact va_Nw.use h2 (gN2w X w h1)
  exact vx_throwS X.1 X.2.1 hlx X.2.2.2.1 hcls (by decide) (X.2.2.1 _ hk) (X.2.2.1 _ hini) hsa hhat hgood ((gX_st X).2.2.2.2.1.kept hkept) ((gX_st X).2.2.2.2.2.kept hkept) hS (hl.1.trans X.2.2.2.2.1.symm) d0 d3 d4 d6 d9 (fun x hx => absurd (hne x hx) id) (by show 2 + 3 < _; omega) (by rw [gcats]; show _ + (13 * (2 + 1) + 43) ≤ _; omega) hkc hns X.2.2.2.2.2.2.2.1
    (fun t ha hz ho => ⟨x, rfl, hx.symm, Nat.le_trans hS.1 hz, t.heap.size, by rw [← hW.1]; exact hz, gW_more hW hz ho⟩) hS.2.2 hk' hn'
def bx {α β : Type} (o : Option ((Nat ⊕ α) × gMem)) (kt : Nat → gMem → Option β) (kr : α → gMem → Option β) : Option β := match o with
  | none => none
  | some (.inl x, M) => kt x M
  | some (.inr v, M) => kr v M
theorem bx_e {α β : Type} {o : Option ((Nat ⊕ α) × gMem)} {kt : Nat → gMem → Option β} {kr : α → gMem → Option β} {z : β} (h : bx o kt kr = some z) : (∃ x M, o = some (.inl x, M) ∧ kt x M = some z) ∨ ∃ v M, o = some (.inr v, M) ∧ kr v M = some z := by
  rcases o with _ | ⟨x | v, M⟩
  · cases h
  · exact Or.inl ⟨x, M, rfl, h⟩
  · exact Or.inr ⟨v, M, rfl, h⟩
/-- a run of a method that may throw: it returned -/
theorem g_runX {v : Option gV} {st0 : List gV} {mc ms : Nat} {a : Array Value} (hr : ∀ (H : Heap) (locs : List Loc) (ls : Array Slot), gW D cy B H0 M H → va_S (gA B) s.heap H locs → lv_has ls nL (lv.map gq) → vx_Run p l e R s m args below meth c H locs k n mc ms (F0 m pc ls (st0.map gv)) (st.map gv) (gQX D cy B H0 (.inr v) M1 a) (gXC D cy B H0 (.inr v) M1) (gA B))
    (kk : gGo p l e R s m args below meth c D cy B H0 nL (k + mc) (n + ms) Q (pc + 3) (lv) (v.toList ++ st) (M1)) : gGo p l e R s m args below meth c D cy B H0 nL k n Q (pc) (lv) (st0) (M) := by
  refine g_run (v := v) (mc := mc) (ms := ms) (a := a) (fun H locs ls hW hS hl T hT X => ?_) kk
  rcases hr H locs ls hW hS hl T hT X with ⟨v', st₀, t, T', L, h0, X', hL, e1, e2, ⟨w, hw, hq⟩, hst⟩ | ⟨q, st₀, t, T', L, E, ce, h0, X', hL, e1, e2, ⟨x, hx, -⟩, -⟩
  · cases hw
    exact ⟨v', st₀, t, T', L, h0, X', hL, e1, e2, hq, hst⟩
  · cases hx
/-- .. it threw, and nothing here catches it -/
theorem g_runT {x : Nat} {st0 : List gV} {mc ms k' n' : Nat} {a : Array Value} (X0 : gX p s m args meth c D cy B Fs own cc ws nL) (hne : ∀ x ∈ c.exceptionTable.toList, False) (hr : ∀ (H : Heap) (locs : List Loc) (ls : Array Slot), gW D cy B H0 M H → va_S (gA B) s.heap H locs → lv_has ls nL (lv.map gq) → vx_Run p l e R s m args below meth c H locs k n mc ms (F0 m pc ls (st0.map gv)) (st.map gv) (gQX D cy B H0 (.inl x) M1 a) (gXC D cy B H0 (.inl x) M1) (gA B))
    (hk' : k + mc ≤ k') (hn' : n + ms ≤ n') : gGo p l e R s m args below meth c D cy B H0 nL k n (gMX below D cy B H0 args s k' n' (.inl x) M1) (pc) (lv) (st0) (M) := fun H locs ls hW hS hl => by
  intro T hT X
  rcases hr H locs ls hW hS hl T hT X with ⟨v', st₀, t, T', L, h0, X', hL, e1, e2, ⟨w, hw, hq⟩, hst⟩ | ⟨q, st₀, t, T', L, E, ce, h0, X', hL, e1, e2, ⟨x', hx, hE, hz, N, hN, hw⟩, hce, hcv, hcl, hst⟩
  · cases hw
  · cases hx
    rw [h0] at hz
    have hS' : ∀ z ∈ locs ++ L, gA B z.base := fun z hz => by
      rcases List.mem_append.mp hz with h | h
      · exact hS.2.2 z h
      · exact hL z h
    obtain ⟨t2, a1, b1⟩ := vx_out (pc := pc) (ls := ls) (rest := st.map gv) (below := below) (Qc := gQX D cy B H0 (.inl x) M1) (XC := gXC D cy B H0 (.inl x) M1) (free := gA B) (H := T'.heap) (locs := locs ++ L) (mc := k') (ms := n') (fun x hx => absurd (hne x hx) id) X0.2.2.2.2.2.2.2.1 (by rw [e1]; exact hce) hcv hcl
      (fun u hu hv => ⟨x, rfl, hE, by rw [hu, e1]; exact Nat.le_trans hS.1 hz, N, hN, by rw [hu, e1]; exact hw⟩) hS' hk' hn' T' rfl X'
    exact ⟨t2, hst.trans a1, b1⟩
variable {y : MethodName} {bytes : ByteArray} {maxL mc ms np index : Nat} {ret : Option FieldType} {ws' : List Cond} {rm : Room} {As : List gV} {r : Option Nat} {b ci : Nat} {v : Option gV} {z : Nat ⊕ Option gV}
theorem g_vxV {C : vw_C} (X : gX p s m args meth c D cy B Fs own cc ws nL) (hM : vx_Met l y ws' rm (va_Pc (Value.ref b :: As.map gv) (gPre D cy B H0 Fs M)) (gQX D cy B H0 z M1) (gXC D cy B H0 z M1) mc ms (gA B)) (cw : CallW R s args own C.1 index y bytes maxL ret ws' rm mc ms np) (hn : As.length = np) (hT : mT M b = ci + 1) (hlt : ci + 1 < 20) (hc : vwCl[ci]? = some C) (hroom : (st.map gw).sum ≤ 8) (hd : decode cc pc = .ok (.invokevirtual index, 3)) (hf : k + mc ≤ R.cells ∧ n + ms ≤ R.slots) (H : Heap) (locs : List Loc) (ls : Array Slot) (hW : gW D cy B H0 M H) (hl : lv_has ls nL (lv.map gq)) :
    vx_Run p l e R s m args below meth c H locs k n mc ms (F0 m pc ls ((As.reverse ++ vR (some b) :: st).map gv)) (st.map gv) (gQX D cy B H0 z M1 (Value.ref b :: As.map gv).toArray) (gXC D cy B H0 z M1) (gA B) := by
  refine vx_runV (As := As.map gv) (rest := st.map gv) (gX_fix X) hM cw ⟨gPre_blind, gW_recv X hW hT hlt hc, fun U hU hw => gPre_at X hW hU hw⟩ rfl (by rw [List.length_map]; exact hn) hl.1 ?_ (groom hroom) hd hf
  show ((As.reverse ++ vR (some b) :: st).map gv) = _
  rw [List.map_append, List.map_reverse]; rfl
theorem g_vxS (X : gX p s m args meth c D cy B Fs own cc ws nL) (hM : vx_Met l y ws' rm (va_Pc (As.map gv) (gPre D cy B H0 Fs M)) (gQX D cy B H0 z M1) (gXC D cy B H0 z M1) mc ms (gA B)) (cw : CallB R s args own index y bytes maxL ret ws' rm mc ms np ∧ (Cond.static y).before args s = true) (hn : As.length = np) (hroom : (st.map gw).sum ≤ 8) (hd : decode cc pc = .ok (.invokestatic index, 3)) (hf : k + mc ≤ R.cells ∧ n + ms ≤ R.slots) (H : Heap) (locs : List Loc) (ls : Array Slot) (hW : gW D cy B H0 M H) (hl : lv_has ls nL (lv.map gq)) :
    vx_Run p l e R s m args below meth c H locs k n mc ms (F0 m pc ls ((As.reverse ++ st).map gv)) (st.map gv) (gQX D cy B H0 z M1 (As.map gv).toArray) (gXC D cy B H0 z M1) (gA B) := by
  refine vx_runS (As := As.map gv) (rest := st.map gv) (gX_fix X) hM cw ⟨gPre_blind, fun U hU hw => gPre_at X hW hU hw⟩ rfl (by rw [List.length_map]; exact hn) hl.1 ?_ (groom hroom) hd hf
  show ((As.reverse ++ st).map gv) = _
  rw [List.map_append, List.map_reverse]
theorem g_callXV {C : vw_C} (X : gX p s m args meth c D cy B Fs own cc ws nL) (hM : vx_Met l y ws' rm (va_Pc (Value.ref b :: As.map gv) (gPre D cy B H0 Fs M)) (gQX D cy B H0 (.inr v) M1) (gXC D cy B H0 (.inr v) M1) mc ms (gA B)) (cw : CallW R s args own C.1 index y bytes maxL ret ws' rm mc ms np) (hst : stk = As.reverse ++ vR r :: st) (hn : As.length = np) (ha : r = some b) (hT : mT M b = ci + 1) (hlt : ci + 1 < 20) (hc : vwCl[ci]? = some C) (hroom : (st.map gw).sum ≤ 8) (hd : decode cc pc = .ok (.invokevirtual index, 3)) (hf : k + mc ≤ R.cells ∧ n + ms ≤ R.slots)
    (kk : gGo p l e R s m args below meth c D cy B H0 nL (k + mc) (n + ms) Q (pc + 3) (lv) (v.toList ++ st) (M1)) : gGo p l e R s m args below meth c D cy B H0 nL k n Q (pc) (lv) (stk) (M) := by
  subst hst; subst ha
  exact g_runX (fun H locs ls hW hS hl => g_vxV X hM cw hn hT hlt hc hroom hd hf H locs ls hW hl) kk
theorem g_callTV {C : vw_C} {x k' n' : Nat} (X : gX p s m args meth c D cy B Fs own cc ws nL) (hne : ∀ x ∈ c.exceptionTable.toList, False) (hM : vx_Met l y ws' rm (va_Pc (Value.ref b :: As.map gv) (gPre D cy B H0 Fs M)) (gQX D cy B H0 (.inl x) M1) (gXC D cy B H0 (.inl x) M1) mc ms (gA B)) (cw : CallW R s args own C.1 index y bytes maxL ret ws' rm mc ms np) (hst : stk = As.reverse ++ vR r :: st) (hn : As.length = np) (ha : r = some b) (hT : mT M b = ci + 1) (hlt : ci + 1 < 20) (hc : vwCl[ci]? = some C) (hroom : (st.map gw).sum ≤ 8) (hd : decode cc pc = .ok (.invokevirtual index, 3)) (hf : k + mc ≤ R.cells ∧ n + ms ≤ R.slots) (hk' : k + mc ≤ k') (hn' : n + ms ≤ n') : gGo p l e R s m args below meth c D cy B H0 nL k n (gMX below D cy B H0 args s k' n' (.inl x) M1) (pc) (lv) (stk) (M) := by
  subst hst; subst ha
  exact g_runT (st := st) X hne (fun H locs ls hW hS hl => g_vxV X hM cw hn hT hlt hc hroom hd hf H locs ls hW hl) hk' hn'
theorem g_callXS (X : gX p s m args meth c D cy B Fs own cc ws nL) (hM : vx_Met l y ws' rm (va_Pc (As.map gv) (gPre D cy B H0 Fs M)) (gQX D cy B H0 (.inr v) M1) (gXC D cy B H0 (.inr v) M1) mc ms (gA B)) (cw : CallB R s args own index y bytes maxL ret ws' rm mc ms np ∧ (Cond.static y).before args s = true) (hst : stk = As.reverse ++ st) (hn : As.length = np) (hroom : (st.map gw).sum ≤ 8) (hd : decode cc pc = .ok (.invokestatic index, 3)) (hf : k + mc ≤ R.cells ∧ n + ms ≤ R.slots)
    (kk : gGo p l e R s m args below meth c D cy B H0 nL (k + mc) (n + ms) Q (pc + 3) (lv) (v.toList ++ st) (M1)) : gGo p l e R s m args below meth c D cy B H0 nL k n Q (pc) (lv) (stk) (M) := by
  subst hst
  exact g_runX (fun H locs ls hW hS hl => g_vxS X hM cw hn hroom hd hf H locs ls hW hl) kk
theorem g_callTS {x k' n' : Nat} (X : gX p s m args meth c D cy B Fs own cc ws nL) (hne : ∀ x ∈ c.exceptionTable.toList, False) (hM : vx_Met l y ws' rm (va_Pc (As.map gv) (gPre D cy B H0 Fs M)) (gQX D cy B H0 (.inl x) M1) (gXC D cy B H0 (.inl x) M1) mc ms (gA B)) (cw : CallB R s args own index y bytes maxL ret ws' rm mc ms np ∧ (Cond.static y).before args s = true) (hst : stk = As.reverse ++ st) (hn : As.length = np) (hroom : (st.map gw).sum ≤ 8) (hd : decode cc pc = .ok (.invokestatic index, 3)) (hf : k + mc ≤ R.cells ∧ n + ms ≤ R.slots) (hk' : k + mc ≤ k') (hn' : n + ms ≤ n') : gGo p l e R s m args below meth c D cy B H0 nL k n (gMX below D cy B H0 args s k' n' (.inl x) M1) (pc) (lv) (stk) (M) := by
  subst hst
  exact g_runT (st := st) X hne (fun H locs ls hW hS hl => g_vxS X hM cw hn hroom hd hf H locs ls hW hl) hk' hn'
theorem g_start0 {N SL : Nat} (kk : gGo p l e R s m args below meth c D cy B H0 nL (N - N) (SL * (N - N)) Q (pc) (lv) (st) (M)) : gGo p l e R s m args below meth c D cy B H0 nL (0) (0) Q (pc) (lv) (st) (M) := by
  rw [Nat.sub_self, Nat.mul_zero] at kk; exact kk
def gzI : Nat ⊕ Int32 → Nat ⊕ Option gV := Sum.map id (fun v => some (vI v))
def gzV : Nat ⊕ Unit → Nat ⊕ Option gV := Sum.map id (fun _ => none)
end G3
