/-! Rows, second part: copies of rows, arrays of references, throws; what holds of the statics beside gSt -/
def gXw : List Cond := ((vx_atS RX11 37 "java/lang/IllegalStateException" ["java/lang/RuntimeException", "java/lang/Exception"]) ++ (vx_atS RX11 48 "java/lang/IllegalArgumentException" ["java/lang/RuntimeException", "java/lang/Exception"]) ++ (vx_atS RX11 96 "java/lang/IndexOutOfBoundsException" ["java/lang/RuntimeException", "java/lang/Exception"])).filter (fun w => !goodWord w)
def gN2 : List Cond := [Cond.arrayOver (FieldType.array FieldType.int), Cond.arrayOver (FieldType.object "TideLots$Fisher"), Cond.arrayOver (FieldType.object "TideLots$Go"), Cond.arrayOver (FieldType.object "TideLots$Ground"), Cond.arrayOver (FieldType.object "TideLots$Pact"), Cond.arrayOver (FieldType.object "TideLots$Sign"), Cond.castable "[B" "java/lang/Cloneable"] ++ gXw
def gTxt : List (String × Nat × String) := [("TideLots", 35, "the tape is full"), ("TideLots", 46, "the tape is not as long"), ("TideLots", 94, "nothing of this number is counted"), ("TideLots", 120, "nothing of this number is told of a ground"), ("TideLots", 160, "nothing of this number is told of a fisher"), ("TideLots", 162, "no such pact"), ("TideLots", 191, "nothing of this number is told of a pact"), ("TideLots", 195, "no such lot"), ("TideLots", 217, "nothing of this number is foreseen"), ("TideLots", 245, "no such ground"), ("TideLots", 247, "no such fisher"), ("TideLots", 249, "too few or too many tides")]
/-- the law's texts: place in its pool, text, its number among ours -/
def gLit : List (Nat × String × Nat) := [(35, "g", 45), (54, "f", 46), (59, " when fish ", 47), (61, ">=", 48), (63, " when boats ", 49), (65, "<", 50), (67, " and tide>", 51), (69, " when not cheats ", 52), (71, " when [store ", 53), (73, " or catch ", 54), (75, "=0]", 55), (77, " when mesh ", 56), (79, " > ", 57), (81, " or tide/3*3=tide", 58), (83, " when min(store ", 59), (85, ",store ", 60), (87, ")<=", 61), (89, "-tide", 62), (91, " when cheats ", 63), (93, " and fish ", 64), (95, "-boats ", 65), (97, ">", 66), (99, "", 67), (101, "fish g", 68), (103, "/2+", 69), (105, "max(", 70), (107, ",tide*", 71), (109, ")", 72), (111, "-store f", 73), (113, "(", 74), (115, "*99999*99999)/(tide-3)", 75), (132, "ground g", 76), (134, " room ", 77), (136, " fish ", 78), (138, ",", 79), (140, ";", 80), (142, " ;\n", 81), (147, "fisher f", 82), (149, " mesh ", 83), (151, " net ", 84), (153, " hold ", 85), (161, "go f", 86), (163, " to g", 87), (169, ";\n", 88), (177, "pact p", 89), (179, " of ", 90), (184, " split;", 91), (186, " spare g", 92), (188, " below ", 93)]
def gSt2 (Z : Nat → Nat) (B : Nat) (H0 : Heap) : State → Prop := fun U => gSt Z B H0 U ∧ (∀ w ∈ gN2, va_Nw w U) ∧ (∀ q ∈ gTxt, ∃ a, vk_R q.1 q.2.1 q.2.2 a U) ∧
  ((∀ q ∈ gLit, vk_R "TideLotsLaw" q.1 q.2.1 (Z (100 + q.2.2)) U) ∧ va_T .int (Z 400) (Z 401) (fun j => .int (Int32.ofNat (Z (1000 + j)))) (gA B) U H0) ∧ vx_Zq Bundle.tN "UNASSIGNED_STACK" Bundle.steD (gA B) U H0 ∧ vx_Zq Bundle.tN "SUPPRESSED_SENTINEL" Bundle.listD (gA B) U H0
def sN (M : gMem) (n : Nat) : gMem := (mT M, mL M, mI M, mR M, mJ M, n)
def exName (e : Nat) : String := if e = 0 then "java/lang/IllegalStateException" else if e = 1 then "java/lang/IllegalArgumentException" else "java/lang/IndexOutOfBoundsException"
/-- the end of a method that may throw: 'inl e' it threw exception e, 'inr v' it returned v -/
def gQX (D : va_G) (cy : Nat → ClassId) (B : Nat) (H0 : Heap) (z : Nat ⊕ Option gV) (M : gMem) : Array Value → State → Outcome → State → Prop := fun a st oc t => ∃ v, z = .inr v ∧ gQ D cy B H0 v M a st oc t
def gXC (D : va_G) (cy : Nat → ClassId) (B : Nat) (H0 : Heap) (z : Nat ⊕ Option gV) (M : gMem) : String → State → State → Prop := fun E st t => ∃ x, z = .inl x ∧ E = exName x ∧ st.heap.size ≤ t.heap.size ∧ ∃ N, mN M ≤ N ∧ gW D cy B H0 (sN M N) t.heap
section G2
variable {p : Program} {l : Launch} {e : Env} {R : Room} {s : State} {m : MethodId} {args : Array Value} {below : List Frame} {meth : Method} {c : Code} {D : va_G} {cy : Nat → ClassId} {B : Nat} {H0 : Heap} {Z : Nat → Nat} {Fs : State → Prop} {own : String} {cc : ByteArray} {ws : List Cond} {nL k n pc : Nat} {Q : State → Prop} {lv lv' : List (Nat × gV)} {st stk : List gV} {M M1 : gMem}
theorem gX_w (X : gX p s m args meth c D cy B (gSt2 Z B H0) own cc ws nL) : gX p s m args meth c D cy B (gSt Z B H0) own cc ws nL := ⟨X.1, X.2.1, X.2.2.1, X.2.2.2.1, X.2.2.2.2.1, X.2.2.2.2.2.1, X.2.2.2.2.2.2.1, X.2.2.2.2.2.2.2.1, fun U h => (X.2.2.2.2.2.2.2.2 U h).1⟩
theorem gN2w (X : gX p s m args meth c D cy B (gSt2 Z B H0) own cc ws nL) (w : Cond) (h : w ∈ gN2) : va_Nw w s := (gX_st X).2.1 w h
theorem gSt2_lit (X : gX p s m args meth c D cy B (gSt2 Z B H0) own cc ws nL) (q : Nat × String × Nat) (h : q ∈ gLit) : vk_R "TideLotsLaw" q.1 q.2.1 (Z (100 + q.2.2)) s := (gX_st X).2.2.2.1.1 q h
theorem gSt2_scr (X : gX p s m args meth c D cy B (gSt2 Z B H0) own cc ws nL) : va_T .int (Z 400) (Z 401) (fun j => .int (Int32.ofNat (Z (1000 + j)))) (gA B) s H0 := (gX_st X).2.2.2.1.2
theorem g_lds {tx : String} {q idx : Nat} (X : gX p s m args meth c D cy B Fs own cc ws nL) (hZ : vk_R own idx tx q s) (hd : decode cc pc = .ok (.ldc idx, 2)) (kk : gGo p l e R s m args below meth c D cy B H0 nL k n Q (pc + 2) (lv) (vR (some q) :: st) (M)) : gGo p l e R s m args below meth c D cy B H0 nL k n Q (pc) (lv) (st) (M) := fun H locs ls hW hS hl => va_ldcS X.1 X.2.1 X.2.2.2.1 hZ hd (kk H locs ls hW hS hl)
theorem gne {x j : Int32} (h : ¬ x = j) : ¬ j.toInt = x.toInt := fun e => h (Int32.toInt_inj.mp e.symm)
theorem glk_out {ps : List (Int × Int)} {x : Int} (dflt : Int) (h : ∀ q ∈ ps, ¬ q.1 = x) : Op.lookupswitch.offset ps dflt x = dflt := by
  induction ps with
  | nil => simp [Op.lookupswitch.offset]
  | cons q l ih =>
    have h1 := h q List.mem_cons_self
    have h2 := ih (fun z hz => h z (List.mem_cons_of_mem _ hz))
    simp_all [Op.lookupswitch.offset]
theorem g_copy {a b idx : Nat} {r r' : Option Nat} {sp dp z : Int32} (X : gX p s m args meth c D cy B Fs own cc ws nL) (hl1 : Cond.methodLink own idx arraycopyName ∈ ws) (hl2 : Cond.native arraycopyName ∈ ws) (hl3 : Cond.static arraycopyName ∈ ws) (hl4 : Cond.initialized "java/lang/System" ∈ ws) (ha : r = some a) (hb' : r' = some b) (hTa : mT M a = 20) (hTb : mT M b = 20) (h1 : ¬ sp < 0) (h2 : ¬ dp < 0) (h3 : ¬ z < 0) (h4 : sp.toNatClampNeg + z.toNatClampNeg ≤ mL M a) (h5 : dp.toNatClampNeg + z.toNatClampNeg ≤ mL M b) (hfr : 1 ≤ R.frames) (hlo : (st.map gw).sum + (nativeFrameWords "java/lang/System" "arraycopy" 5 + 11) ≤ R.locals) (hd : decode cc pc = .ok (.invokestatic idx, 3))
    (kk : gGo p l e R s m args below meth c D cy B H0 nL k n Q (pc + 3) (lv) (st) (cpI M a sp.toNatClampNeg b dp.toNatClampNeg z.toNatClampNeg)) : gGo p l e R s m args below meth c D cy B H0 nL k n Q (pc) (lv) (vI z :: vI dp :: vR r' :: vI sp :: vR r :: st) (M) := fun H locs ls hW hS hl => by
  subst ha; subst hb'
  have nn : ∀ z : Int32, ¬ z < 0 → z.toInt = (z.toNatClampNeg : Int) := by
    intro z hz
    have hz0 : (0 : Int) ≤ z.toInt := by
      have := Int32.not_lt.mp hz
      simpa using Int32.le_iff_toInt_le.mp this
    show z.toInt = ((z.toInt.toNat : Nat) : Int)
    omega
  have hB := (hW.2.2.2 b (by omega)).1
  have hc0 := (hW.2.2.2 a (by omega)).2
  have hc1 := (hW.2.2.2 b (by omega)).2
  rw [gE_int hTa] at hc0
  rw [gE_int hTb] at hc1
  have hc0 : H[a]? = some (vp_cell (cy 20) (mL M a, .inl (mI M a))) := hc0
  have hc1 : H[b]? = some (vp_cell (cy 20) (mL M b, .inl (mI M b))) := hc1
  intro T hT X0
  obtain ⟨-, k0, hk0, cm0, hkk0⟩ := (X.2.2.2.2.2.1.2 0 _ rfl).1 (mL M a) (fun j => .int (mI M a j))
  obtain ⟨-, k1, hk1, cm1, hkk1⟩ := (X.2.2.2.2.2.1.2 0 _ rfl).1 (mL M b) (fun j => .int (mI M b j))
  obtain ⟨vm', X', step⟩ := X0.arraycopy X.1 X.2.2.2.1 (X.2.2.1 _ hl1) (X.2.2.1 _ hl2) (X.2.2.1 _ hl3) (X.2.2.1 _ hl4) (src := a) (dst := b) (cs := vp_cell (cy 20) (mL M a, .inl (mI M a))) (cd := vp_cell (cy 20) (mL M b, .inl (mI M b))) (srcPos := sp) (destPos := dp) (n := z) (by rw [hT]; exact hc0) (by rw [hT]; exact hc1)
    (fun _ h => by cases h) (fun _ h => by cases h) (fun h => by cases h) (fun h => by cases h) hk0 hk1 hkk0 hkk1 (by simp [refKind]) h1 h2 h3
    (by rw [nn sp h1, nn z h3]; show ¬ _ > ((arrV (cy 20) (mL M a) (fun j => .int (mI M a j))).slots.size : Int); rw [arrV_size]; omega)
    (by rw [nn dp h2, nn z h3]; show ¬ _ > ((arrV (cy 20) (mL M b) (fun j => .int (mI M b j))).slots.size : Int); rw [arrV_size]; omega)
    (fun vm₁ _ i hi => by
      have e : (vp_cell (cy 20) (mL M a, .inl (mI M a))).slots.getD (sp.toNatClampNeg + i) .null = .int (mI M a (sp.toNatClampNeg + i)) := by
        show (arrV (cy 20) (mL M a) (fun j => .int (mI M a j))).slots.getD _ _ = _
        rw [Array.getD_eq_getD_getElem?, arrV_read _ _ (by omega)]
        rfl
      refine ⟨?_, ?_⟩
      · rw [e]
        rfl
      · rw [e]
        exact trivial)
    (g := F0 m pc ls ((vI z :: vI dp :: vR (some b) :: vI sp :: vR (some a) :: st).map gv)) rfl (by rw [X.2.2.2.2.1]; exact hl.1) (rest := st.map gv) rfl (by rw [X.2.1]; exact hd) hfr (by show 2 * 0 + _ + _ ≤ _; rw [gcats]; omega)
  have e1 : copied (vp_cell (cy 20) (mL M a, .inl (mI M a))) (vp_cell (cy 20) (mL M b, .inl (mI M b))) sp dp z = vp_cell (cy 20) (mL M b, .inl (va_cpy (mI M a) (mI M b) sp.toNatClampNeg dp.toNatClampNeg z.toNatClampNeg)) := va_copied (fun z => .int z) (cy 20) (cy 20) (mI M a) (mI M b) h4
  rw [e1] at X' step
  have hlt : b < H.size := (Array.getElem?_eq_some_iff.mp hc1).1
  have hheap : ((T.setVm vm').setCell b (vp_cell (cy 20) (mL M b, .inl (va_cpy (mI M a) (mI M b) sp.toNatClampNeg dp.toNatClampNeg z.toNatClampNeg)))).heap = H.setIfInBounds b (vp_cell (cy 20) (mL M b, .inl (va_cpy (mI M a) (mI M b) sp.toNatClampNeg dp.toNatClampNeg z.toNatClampNeg))) := by rw [← hT]; rfl
  have oq : ∀ q : Nat, q ≠ b → (H.setIfInBounds b (vp_cell (cy 20) (mL M b, .inl (va_cpy (mI M a) (mI M b) sp.toNatClampNeg dp.toNatClampNeg z.toNatClampNeg))))[q]? = H[q]? := fun q hq => by simp [Array.getElem?_setIfInBounds, Ne.symm hq]
  have hW' : gW D cy B H0 (cpI M a sp.toNatClampNeg b dp.toNatClampNeg z.toNatClampNeg) (H.setIfInBounds b (vp_cell (cy 20) (mL M b, .inl (va_cpy (mI M a) (mI M b) sp.toNatClampNeg dp.toNatClampNeg z.toNatClampNeg)))) := by
    refine gW_set hW (by omega) ?_ (by simp) oq rfl rfl (fun q hq => gE_congr rfl rfl (by simp [cpI, mI, up1, hq]) rfl rfl)
    rw [gE_int (M := cpI M a sp.toNatClampNeg b dp.toNatClampNeg z.toNatClampNeg) hTb]
    show (H.setIfInBounds b _)[b]? = some _
    simp [Array.getElem?_setIfInBounds, hlt, cpI, mI, mL, up1]
  obtain ⟨t, a1, b1⟩ := kk _ _ ls hW' ⟨by simp; exact hS.1, fun q g1 g2 => by
      rw [oq q (fun e => g2 (by rw [e]; exact hB))]
      exact hS.2.1 q g1 g2, fun q hq => by
      rcases List.mem_append.mp hq with h | h
      · exact hS.2.2 q h
      · obtain ⟨z, -, hz⟩ := List.mem_map.mp h
        rw [← hz]
        exact hB⟩ hl _ hheap X'
  exact ⟨t, step t a1, b1⟩
theorem g_anewa {C : String} {t t0 idx : Nat} {z : Int32} (X : gX p s m args meth c D cy B Fs own cc ws nL) (hAO : va_AO C s) (h1 : Cond.classLink own idx C ∈ ws) (ht : 23 ≤ t ∧ t < 29) (hty : (gTys cy)[t0]? = some (cy t, .object C)) (hz : ¬ z < 0) (hb : z.toNatClampNeg ≤ 60000000) (hk : k + 1 ≤ R.cells ∧ n + z.toNatClampNeg ≤ R.slots) (hd : decode cc pc = .ok (.anewarray idx, 3))
    (kk : gGo p l e R s m args below meth c D cy B H0 nL (k + 1) (n + z.toNatClampNeg) Q (pc + 3) (lv) (vR (some (mN M)) :: st) (nW M t z.toNatClampNeg)) : gGo p l e R s m args below meth c D cy B H0 nL k n Q (pc) (lv) (vI z :: st) (M) := fun H locs ls hW hS hl => by
  have hN : H.size = mN M := hW.1
  refine W.anew X.1 X.2.1 X.2.2.2.1 (X.2.2.1 _ h1) (va_AO.use hAO) rfl hd rfl hz (by omega) hk.1 hk.2 fun cA kA comp f1 f2 f3 f4 => ?_
  generalize hH1 : H.push ({ cls := cA, slots := Array.replicate z.toNatClampNeg .null, vm := .none } : Cell) = H1
  have z1 : H1.size = H.size + 1 := by rw [← hH1, Array.size_push]
  have e1 : H1[H.size]? = some (arrV cA z.toNatClampNeg (fun _ => .null)) := by rw [← hH1, Array.getElem?_push_size, ← arrV_new]
  have o1 : ∀ q : Nat, q < H.size → H1[q]? = H[q]? := fun q hq => by rw [← hH1, Array.getElem?_push, if_neg (Nat.ne_of_lt hq)]
  refine W.eq (g2 := F0 m (pc + 3) ls ((vR (some (mN M)) :: st).map gv)) (by rw [← hN]; rfl) (kk H1 locs ls (gW_new hW z1 o1 ?_) (gS_new hS z1 o1) hl)
  have h9 : cA = cy t := by
    obtain ⟨kA', comp', g1, g2, g3, g4⟩ := (X.2.2.2.2.2.1.2 t0 _ hty).2
    exact Option.some.inj (f1.symm.trans g4)
  rw [gE_ref (M := nW M t z.toNatClampNeg) (t := t) (by simp [nW, mT, up1]) ht, ← h9]
  show H1[mN M]? = some (vp_cell _ _)
  rw [vp_cell_q, ← hN, e1, hN]
  simp [nW, mL, mR, up1, va_rf]
theorem gW_more {H H1 : Heap} (hW : gW D cy B H0 M H) (z : H.size ≤ H1.size) (o : ∀ q, q < H.size → H1[q]? = H[q]?) : gW D cy B H0 (sN M H1.size) H1 := by
  obtain ⟨w1, w2, w3, w4⟩ := hW
  refine ⟨rfl, by show B ≤ H1.size; omega, fun q hq => by rw [o q (by omega)]; exact w3 q hq, fun a ha => ⟨(w4 a ha).1, ?_⟩⟩
  have h := (w4 a ha).2
  rw [gE_congr (M := M) (M' := sN M H1.size) rfl rfl rfl rfl rfl]
  exact h.kept (o a h.lt)
end G2
