/-! Rows, fourth part: nulls, boolean rows, longs into fields, bytes copied and cloned, rows of rows, the superclass's methods -/
/-- a byte fits -/
theorem fit_b {x : Int32} (h : i2bV x = x) : fits .byte (.int x) = true := by
  have h3 : x.toInt = (x.toInt8).toInt := by
    conv => lhs; rw [← h]
    exact Int8.toInt_toInt32 _
  have h4 := Int8.le_toInt x.toInt8
  have h5 := Int8.toInt_lt x.toInt8
  have e1 : (-128 : Int32).toInt = -128 := by decide
  have e2 : (127 : Int32).toInt = 127 := by decide
  have g1 : (-128 : Int32) ≤ x := Int32.le_iff_toInt_le.mpr (by rw [h3, e1]; omega)
  have g2 : x ≤ (127 : Int32) := Int32.le_iff_toInt_le.mpr (by rw [h3, e2]; omega)
  simp [fits, g1, g2]
theorem sBy_b : ∀ j, j < 94 → ∀ i, i < sLn j → i2bV (sBy j i) = sBy j i := by decide +kernel
/-- bytes of a constant copied -/
def cpT (M : gMem) (f : Nat → Int32) (i b j n : Nat) : gMem := (mT M, mL M, up1 (mI M) b (va_cpy f (mI M b) i j n), mR M, mJ M, mN M)
/-- a copy of the bytes at a -/
def clM (M : gMem) (a : Nat) : gMem := (up1 (mT M) (mN M) 22, up1 (mL M) (mN M) (mL M a), up1 (mI M) (mN M) (mI M a), up1 (mR M) (mN M) (fun _ => none), up1 (mJ M) (mN M) (fun _ => 0), mN M + 1)
/-- i rows of k ints into the row at a -/
def mnS (k a : Nat) : Nat → gMem → gMem
  | 0, M => M
  | i + 1, M => wR (nW (mnS k a i M) 20 k) a i (some (a + 1 + i))
/-- a row of n rows of k ints -/
def mnM (M : gMem) (n k : Nat) : gMem := mnS k (mN M) n (nW M 28 n)
theorem mnS_N (k a : Nat) : ∀ (i : Nat) (M : gMem), mN (mnS k a i M) = mN M + i
  | 0, _ => rfl
  | i + 1, M => by
    show mN (mnS k a i M) + 1 = _
    rw [mnS_N k a i M]; omega
section G4
variable {p : Program} {l : Launch} {e : Env} {R : Room} {s : State} {m : MethodId} {args : Array Value} {below : List Frame} {meth : Method} {c : Code} {D : va_G} {cy : Nat → ClassId} {B : Nat} {H0 : Heap} {Z : Nat → Nat} {Fs : State → Prop} {own : String} {cc : ByteArray} {ws : List Cond} {nL k n pc : Nat} {Q : State → Prop} {lv lv' : List (Nat × gV)} {st stk : List gV} {M M1 : gMem}
theorem g_ifnonnull {r : Option Nat} {off : Int} {tgt : Nat} (X : gX p s m args meth c D cy B Fs own cc ws nL) (hd : decode cc pc = .ok (.ifnonnull off, 3)) (ht : (pc : Int) + off = (tgt : Int)) (kt : ¬ r = none → gGo p l e R s m args below meth c D cy B H0 nL k n Q (tgt) (lv) (st) (M)) (kf : r = none → gGo p l e R s m args below meth c D cy B H0 nL k n Q (pc + 3) (lv) (st) (M)) : gGo p l e R s m args below meth c D cy B H0 nL k n Q (pc) (lv) (vR r :: st) (M) := fun H locs ls hW hS hl => by
  cases r with
  | none => exact lv_ifnonnullN X.1 X.2.1 hd (kf rfl H locs ls hW hS hl)
  | some a => exact lv_ifnonnull X.1 X.2.1 hd ht (kt (by simp) H locs ls hW hS hl)
theorem g_ifnull {r : Option Nat} {off : Int} {tgt : Nat} (X : gX p s m args meth c D cy B Fs own cc ws nL) (hd : decode cc pc = .ok (.ifnull off, 3)) (ht : (pc : Int) + off = (tgt : Int)) (kt : r = none → gGo p l e R s m args below meth c D cy B H0 nL k n Q (tgt) (lv) (st) (M)) (kf : ¬ r = none → gGo p l e R s m args below meth c D cy B H0 nL k n Q (pc + 3) (lv) (st) (M)) : gGo p l e R s m args below meth c D cy B H0 nL k n Q (pc) (lv) (vR r :: st) (M) := fun H locs ls hW hS hl => by
  cases r with
  | none => exact lv_ifnullN X.1 X.2.1 hd ht (kt rfl H locs ls hW hS hl)
  | some a => exact lv_ifnull X.1 X.2.1 hd (kf (by simp) H locs ls hW hS hl)
theorem g_null (X : gX p s m args meth c D cy B Fs own cc ws nL) (hd : decode cc pc = .ok (.aconst_null, 1)) (kk : gGo p l e R s m args below meth c D cy B H0 nL k n Q (pc + 1) (lv) (vR none :: st) (M)) : gGo p l e R s m args below meth c D cy B H0 nL k n Q (pc) (lv) (st) (M) := fun H locs ls hW hS hl => lv_null X.1 X.2.1 hd (kk H locs ls hW hS hl)
theorem g_ishl {x y : Int32} (X : gX p s m args meth c D cy B Fs own cc ws nL) (hd : decode cc pc = .ok (.ishl, 1)) (kk : gGo p l e R s m args below meth c D cy B H0 nL k n Q (pc + 1) (lv) (vI (x <<< (y &&& 31)) :: st) (M)) : gGo p l e R s m args below meth c D cy B H0 nL k n Q (pc) (lv) (vI y :: vI x :: st) (M) := fun H locs ls hW hS hl => lv_ishl X.1 X.2.1 hd (kk H locs ls hW hS hl)
theorem g_putJ {ci : Nat} {C ref : String} {T : u_T} {N : Nat} {ty : Nat → FieldType} {j a : Nat} {r : Option Nat} {v : Int64} (f : Nat) (X : gX p s m args meth c D cy B Fs own cc ws nL) (hC : gCD ci C T N ty) (hin : ∀ w ∈ u_ws C T N, w ∈ ws) (hf : f < N) (hlk : Cond.fieldLink own j ref (T f).2.1 (T f).2.2.1 ∈ ws) (href : (T f).1 = ref) (hd : decode cc pc = .ok (.putfield j, 3)) (ha : r = some a) (hT : mT M a = ci + 1)
    (hfin : (T f).2.2.2 = false ∨ ((T f).2.2.2 = true ∧ meth.name = "<init>" ∧ (T f).1 = own)) (hn : narrow (ty f) (.long v) = .long v) (hfit : fits (ty f) (.long v) = true) (hlay : (gLay (ci + 1))[f]? = some none)
    (kk : gGo p l e R s m args below meth c D cy B H0 nL k n Q (pc + 3) (lv) (st) (wJ M a f v)) : gGo p l e R s m args below meth c D cy B H0 nL k n Q (pc) (lv) (vJ v :: vR r :: st) (M) :=
  g_putV f X hC hin hf hlk href hd ha hT hfin hn hfit (by rw [gE_obj (M := wJ M a f v) hT hC.2.2.2.1, show wJ M a f v = wJ M a (0 + f) v by rw [Nat.zero_add], gFl_J _ 0 f hlay]; rfl) (fun b hb => gE_wJ hb) rfl rfl kk
theorem g_zald {a : Nat} {r : Option Nat} {i : Int32} (X : gX p s m args meth c D cy B Fs own cc ws nL) (hd : decode cc pc = .ok (.baload, 1)) (ha : r = some a) (hT : mT M a = 29) (hin : vp_in i (mL M a)) (kk : gGo p l e R s m args below meth c D cy B H0 nL k n Q (pc + 1) (lv) (vI (mI M a i.toNatClampNeg) :: st) (M)) : gGo p l e R s m args below meth c D cy B H0 nL k n Q (pc) (lv) (vI i :: vR r :: st) (M) := fun H locs ls hW hS hl => by
  subst ha
  exact va_zald X.1 X.2.1 X.2.2.2.2.2.1 (gW_P hW (by omega) (gE_bool hT)) 0 9 rfl rfl hin hd (kk H locs ls hW hS hl)
theorem g_zast {a : Nat} {r : Option Nat} {i v : Int32} (X : gX p s m args meth c D cy B Fs own cc ws nL) (hd : decode cc pc = .ok (.bastore, 1)) (ha : r = some a) (hT : mT M a = 29) (hin : vp_in i (mL M a)) (kk : gGo p l e R s m args below meth c D cy B H0 nL k n Q (pc + 1) (lv) (st) (wI M a i.toNatClampNeg (vp_nar .boolean v))) : gGo p l e R s m args below meth c D cy B H0 nL k n Q (pc) (lv) (vI v :: vI i :: vR r :: st) (M) := fun H locs ls hW hS hl => by
  subst ha
  have hTn : mT M a ≠ 0 := by omega
  have hat := (hW.2.2.2 a hTn).2
  rw [gE_bool hT] at hat
  refine W.zast X.1 X.2.1 hat ((X.2.2.2.2.2.1.2 9 _ rfl).1 (mL M a) (fun j => .int (mI M a j))) (fun q => by cases q) (by show ¬ (i < 0 ∨ (arrV _ _ _).slots.size ≤ _); rw [arrV_size]; exact hin) rfl rfl hd fun H1 e z oq => ?_
  refine kk H1 _ ls (gW_set hW hTn ?_ z oq rfl rfl (fun b hb => gE_wI hb)) (hS.put z oq (hW.2.2.2 a hTn).1) hl
  rw [gE_bool (M := wI M a i.toNatClampNeg (vp_nar .boolean v)) hT]
  show H1[a]? = some (vp_cell _ _)
  rw [e]
  rw [vp_cell_i, vp_cell_i, arrV_store]
  congr 2
  funext q
  by_cases hq : q = i.toNatClampNeg
  · subst hq
    simp [updV, wI, mI, up2, vp_nar]
    try rfl
  · simp [updV, wI, mI, up2, hq]
theorem g_castB {a idx : Nat} {r : Option Nat} (X : gX p s m args meth c D cy B Fs own cc ws nL) (h1 : Cond.classLink own idx "[B" ∈ ws) (hd : decode cc pc = .ok (.checkcast idx, 3)) (ha : r = some a) (hT : mT M a = 22) (kk : gGo p l e R s m args below meth c D cy B H0 nL k n Q (pc + 3) (lv) (vR r :: st) (M)) : gGo p l e R s m args below meth c D cy B H0 nL k n Q (pc) (lv) (vR r :: st) (M) := fun H locs ls hW hS hl => by
  subst ha
  have hnm : s.vm.findClass "[B" = some (cy 22) := (X.2.2.2.2.2.1.2 2 _ rfl).2
  exact va_castA X.1 X.2.1 X.2.2.2.1 (X.2.2.1 _ h1) (gW_P hW (by omega) (gE_byte hT)) 0 rfl hnm hd (kk H locs ls hW hS hl)
theorem g_copyB {a b idx : Nat} {r r' : Option Nat} {sp dp z : Int32} (X : gX p s m args meth c D cy B Fs own cc ws nL) (hl1 : Cond.methodLink own idx arraycopyName ∈ ws) (hl2 : Cond.native arraycopyName ∈ ws) (hl3 : Cond.static arraycopyName ∈ ws) (hl4 : Cond.initialized "java/lang/System" ∈ ws) (ha : r = some a) (hb' : r' = some b) (hTa : mT M a = 22) (hTb : mT M b = 22) (h1 : ¬ sp < 0) (h2 : ¬ dp < 0) (h3 : ¬ z < 0) (h4 : sp.toNatClampNeg + z.toNatClampNeg ≤ mL M a) (h5 : dp.toNatClampNeg + z.toNatClampNeg ≤ mL M b) (hby : ∀ i, i < z.toNatClampNeg → i2bV (mI M a (sp.toNatClampNeg + i)) = mI M a (sp.toNatClampNeg + i)) (hfr : 1 ≤ R.frames) (hlo : (st.map gw).sum + (nativeFrameWords "java/lang/System" "arraycopy" 5 + 11) ≤ R.locals) (hd : decode cc pc = .ok (.invokestatic idx, 3))
    (kk : gGo p l e R s m args below meth c D cy B H0 nL k n Q (pc + 3) (lv) (st) (cpI M a sp.toNatClampNeg b dp.toNatClampNeg z.toNatClampNeg)) : gGo p l e R s m args below meth c D cy B H0 nL k n Q (pc) (lv) (vI z :: vI dp :: vR r' :: vI sp :: vR r :: st) (M) := fun H locs ls hW hS hl => by
  subst ha; subst hb'
  have nn : ∀ z : Int32, ¬ z < 0 → z.toInt = (z.toNatClampNeg : Int) := by
    intro z hz
    have hz0 : (0 : Int) ≤ z.toInt := by
      have := Int32.not_lt.mp hz
      simpa using Int32.le_iff_toInt_le.mp this
    show z.toInt = ((z.toInt.toNat : Nat) : Int)
    omega
  have hB := (hW.2.2.2 b (by omega)).1
  have hc0 := (hW.2.2.2 a (by omega)).2
  have hc1 := (hW.2.2.2 b (by omega)).2
  rw [gE_byte hTa] at hc0
  rw [gE_byte hTb] at hc1
  have hc0 : H[a]? = some (vp_cell (cy 22) (mL M a, .inl (mI M a))) := hc0
  have hc1 : H[b]? = some (vp_cell (cy 22) (mL M b, .inl (mI M b))) := hc1
  intro T hT X0
  obtain ⟨-, k0, hk0, cm0, hkk0⟩ := (X.2.2.2.2.2.1.2 2 _ rfl).1 (mL M a) (fun j => .int (mI M a j))
  obtain ⟨-, k1, hk1, cm1, hkk1⟩ := (X.2.2.2.2.2.1.2 2 _ rfl).1 (mL M b) (fun j => .int (mI M b j))
  obtain ⟨vm', X', step⟩ := X0.arraycopy X.1 X.2.2.2.1 (X.2.2.1 _ hl1) (X.2.2.1 _ hl2) (X.2.2.1 _ hl3) (X.2.2.1 _ hl4) (src := a) (dst := b) (cs := vp_cell (cy 22) (mL M a, .inl (mI M a))) (cd := vp_cell (cy 22) (mL M b, .inl (mI M b))) (srcPos := sp) (destPos := dp) (n := z) (by rw [hT]; exact hc0) (by rw [hT]; exact hc1)
    (fun _ h => by cases h) (fun _ h => by cases h) (fun h => by cases h) (fun h => by cases h) hk0 hk1 hkk0 hkk1 (by simp [refKind]) h1 h2 h3
    (by rw [nn sp h1, nn z h3]; show ¬ _ > ((arrV (cy 22) (mL M a) (fun j => .int (mI M a j))).slots.size : Int); rw [arrV_size]; omega)
    (by rw [nn dp h2, nn z h3]; show ¬ _ > ((arrV (cy 22) (mL M b) (fun j => .int (mI M b j))).slots.size : Int); rw [arrV_size]; omega)
    (fun vm₁ _ i hi => by
      have e : (vp_cell (cy 22) (mL M a, .inl (mI M a))).slots.getD (sp.toNatClampNeg + i) .null = .int (mI M a (sp.toNatClampNeg + i)) := by
        show (arrV (cy 22) (mL M a) (fun j => .int (mI M a j))).slots.getD _ _ = _
        rw [Array.getD_eq_getD_getElem?, arrV_read _ _ (by omega)]
        rfl
      refine ⟨?_, ?_⟩
      · rw [e]
        exact fit_b (hby i hi)
      · rw [e]
        exact trivial)
    (g := F0 m pc ls ((vI z :: vI dp :: vR (some b) :: vI sp :: vR (some a) :: st).map gv)) rfl (by rw [X.2.2.2.2.1]; exact hl.1) (rest := st.map gv) rfl (by rw [X.2.1]; exact hd) hfr (by show 2 * 0 + _ + _ ≤ _; rw [gcats]; omega)
  have e1 : copied (vp_cell (cy 22) (mL M a, .inl (mI M a))) (vp_cell (cy 22) (mL M b, .inl (mI M b))) sp dp z = vp_cell (cy 22) (mL M b, .inl (va_cpy (mI M a) (mI M b) sp.toNatClampNeg dp.toNatClampNeg z.toNatClampNeg)) := va_copied (fun z => .int z) (cy 22) (cy 22) (mI M a) (mI M b) h4
  rw [e1] at X' step
  have hlt : b < H.size := (Array.getElem?_eq_some_iff.mp hc1).1
  have hheap : ((T.setVm vm').setCell b (vp_cell (cy 22) (mL M b, .inl (va_cpy (mI M a) (mI M b) sp.toNatClampNeg dp.toNatClampNeg z.toNatClampNeg)))).heap = H.setIfInBounds b (vp_cell (cy 22) (mL M b, .inl (va_cpy (mI M a) (mI M b) sp.toNatClampNeg dp.toNatClampNeg z.toNatClampNeg))) := by rw [← hT]; rfl
  have oq : ∀ q : Nat, q ≠ b → (H.setIfInBounds b (vp_cell (cy 22) (mL M b, .inl (va_cpy (mI M a) (mI M b) sp.toNatClampNeg dp.toNatClampNeg z.toNatClampNeg))))[q]? = H[q]? := fun q hq => by simp [Array.getElem?_setIfInBounds, Ne.symm hq]
  have hW' : gW D cy B H0 (cpI M a sp.toNatClampNeg b dp.toNatClampNeg z.toNatClampNeg) (H.setIfInBounds b (vp_cell (cy 22) (mL M b, .inl (va_cpy (mI M a) (mI M b) sp.toNatClampNeg dp.toNatClampNeg z.toNatClampNeg)))) := by
    refine gW_set hW (by omega) ?_ (by simp) oq rfl rfl (fun q hq => gE_congr rfl rfl (by simp [cpI, mI, up1, hq]) rfl rfl)
    rw [gE_byte (M := cpI M a sp.toNatClampNeg b dp.toNatClampNeg z.toNatClampNeg) hTb]
    show (H.setIfInBounds b _)[b]? = some _
    simp [Array.getElem?_setIfInBounds, hlt, cpI, mI, mL, up1]
  obtain ⟨t, a1, b1⟩ := kk _ _ ls hW' ⟨by simp; exact hS.1, fun q g1 g2 => by
      rw [oq q (fun e => g2 (by rw [e]; exact hB))]
      exact hS.2.1 q g1 g2, fun q hq => by
      rcases List.mem_append.mp hq with h | h
      · exact hS.2.2 q h
      · obtain ⟨z, -, hz⟩ := List.mem_map.mp h
        rw [← hz]
        exact hB⟩ hl _ hheap X'
  exact ⟨t, step t a1, b1⟩
theorem g_copyBT {t N b idx : Nat} {f : Nat → Int32} {r r' : Option Nat} {sp dp z : Int32} (X : gX p s m args meth c D cy B Fs own cc ws nL) (hl1 : Cond.methodLink own idx arraycopyName ∈ ws) (hl2 : Cond.native arraycopyName ∈ ws) (hl3 : Cond.static arraycopyName ∈ ws) (hl4 : Cond.initialized "java/lang/System" ∈ ws) (hTt : va_T .byte t N (fun j => .int (f j)) (gA B) s H0) (ha : r = some t) (hb' : r' = some b) (hTb : mT M b = 22) (h1 : ¬ sp < 0) (h2 : ¬ dp < 0) (h3 : ¬ z < 0) (h4 : sp.toNatClampNeg + z.toNatClampNeg ≤ N) (h5 : dp.toNatClampNeg + z.toNatClampNeg ≤ mL M b) (hby : ∀ i, i < N → i2bV (f i) = f i) (hfr : 1 ≤ R.frames) (hlo : (st.map gw).sum + (nativeFrameWords "java/lang/System" "arraycopy" 5 + 11) ≤ R.locals) (hd : decode cc pc = .ok (.invokestatic idx, 3))
    (kk : gGo p l e R s m args below meth c D cy B H0 nL k n Q (pc + 3) (lv) (st) (cpT M f sp.toNatClampNeg b dp.toNatClampNeg z.toNatClampNeg)) : gGo p l e R s m args below meth c D cy B H0 nL k n Q (pc) (lv) (vI z :: vI dp :: vR r' :: vI sp :: vR r :: st) (M) := fun H locs ls hW hS hl => by
  subst ha; subst hb'
  have nn : ∀ z : Int32, ¬ z < 0 → z.toInt = (z.toNatClampNeg : Int) := by
    intro z hz
    have hz0 : (0 : Int) ≤ z.toInt := by
      have := Int32.not_lt.mp hz
      simpa using Int32.le_iff_toInt_le.mp this
    show z.toInt = ((z.toInt.toNat : Nat) : Int)
    omega
  have hB := (hW.2.2.2 b (by omega)).1
  have hc1 := (hW.2.2.2 b (by omega)).2
  rw [gE_byte hTb] at hc1
  have hc1 : H[b]? = some (vp_cell (cy 22) (mL M b, .inl (mI M b))) := hc1
  obtain ⟨cell, g1, g2, g3, g4, g5, g6, g7⟩ := hTt
  have hc0 : H[t]? = some cell := by rw [hW.2.2.1 t (Nat.not_le.mp g7)]; exact g1
  obtain ⟨g8, k0, hk0, cm0, hkk0⟩ := g2
  intro T hT X0
  obtain ⟨-, k1, hk1, cm1, hkk1⟩ := (X.2.2.2.2.2.1.2 2 _ rfl).1 (mL M b) (fun j => .int (mI M b j))
  obtain ⟨vm', X', step⟩ := X0.arraycopy X.1 X.2.2.2.1 (X.2.2.1 _ hl1) (X.2.2.1 _ hl2) (X.2.2.1 _ hl3) (X.2.2.1 _ hl4) (src := t) (dst := b) (cs := cell) (cd := vp_cell (cy 22) (mL M b, .inl (mI M b))) (srcPos := sp) (destPos := dp) (n := z) (by rw [hT]; exact hc0) (by rw [hT]; exact hc1)
    g8 (fun _ h => by cases h) g3 (fun h => by cases h) hk0 hk1 hkk0 hkk1 (by simp [refKind]) h1 h2 h3
    (by rw [nn sp h1, nn z h3]; omega)
    (by rw [nn dp h2, nn z h3]; show ¬ _ > ((arrV (cy 22) (mL M b) (fun j => .int (mI M b j))).slots.size : Int); rw [arrV_size]; omega)
    (fun vm₁ _ i hi => by
      have e : cell.slots.getD (sp.toNatClampNeg + i) .null = .int (f (sp.toNatClampNeg + i)) := by
        rw [Array.getD_eq_getD_getElem?, g6 _ (by omega)]
        rfl
      refine ⟨?_, ?_⟩
      · rw [e]
        exact fit_b (hby _ (by omega))
      · rw [e]
        exact trivial)
    (g := F0 m pc ls ((vI z :: vI dp :: vR (some b) :: vI sp :: vR (some t) :: st).map gv)) rfl (by rw [X.2.2.2.2.1]; exact hl.1) (rest := st.map gv) rfl (by rw [X.2.1]; exact hd) hfr (by show 2 * 0 + _ + _ ≤ _; rw [gcats]; omega)
  have e1 : copied cell (vp_cell (cy 22) (mL M b, .inl (mI M b))) sp dp z = vp_cell (cy 22) (mL M b, .inl (va_cpy f (mI M b) sp.toNatClampNeg dp.toNatClampNeg z.toNatClampNeg)) := va_copiedX (fun z => .int z) cell (cy 22) f (mI M b) g6 h4
  rw [e1] at X' step
  have hlt : b < H.size := (Array.getElem?_eq_some_iff.mp hc1).1
  have hheap : ((T.setVm vm').setCell b (vp_cell (cy 22) (mL M b, .inl (va_cpy f (mI M b) sp.toNatClampNeg dp.toNatClampNeg z.toNatClampNeg)))).heap = H.setIfInBounds b (vp_cell (cy 22) (mL M b, .inl (va_cpy f (mI M b) sp.toNatClampNeg dp.toNatClampNeg z.toNatClampNeg))) := by rw [← hT]; rfl
  have oq : ∀ q : Nat, q ≠ b → (H.setIfInBounds b (vp_cell (cy 22) (mL M b, .inl (va_cpy f (mI M b) sp.toNatClampNeg dp.toNatClampNeg z.toNatClampNeg))))[q]? = H[q]? := fun q hq => by simp [Array.getElem?_setIfInBounds, Ne.symm hq]
  have hW' : gW D cy B H0 (cpT M f sp.toNatClampNeg b dp.toNatClampNeg z.toNatClampNeg) (H.setIfInBounds b (vp_cell (cy 22) (mL M b, .inl (va_cpy f (mI M b) sp.toNatClampNeg dp.toNatClampNeg z.toNatClampNeg)))) := by
    refine gW_set hW (by omega) ?_ (by simp) oq rfl rfl (fun q hq => gE_congr rfl rfl (by simp [cpT, mI, up1, hq]) rfl rfl)
    rw [gE_byte (M := cpT M f sp.toNatClampNeg b dp.toNatClampNeg z.toNatClampNeg) hTb]
    show (H.setIfInBounds b _)[b]? = some _
    simp [Array.getElem?_setIfInBounds, hlt, cpT, mI, mL, up1]
  obtain ⟨t1, a1, b1⟩ := kk _ _ ls hW' ⟨by simp; exact hS.1, fun q q1 q2 => by
      rw [oq q (fun e => q2 (by rw [e]; exact hB))]
      exact hS.2.1 q q1 q2, fun q hq => by
      rcases List.mem_append.mp hq with h | h
      · exact hS.2.2 q h
      · obtain ⟨z, -, hz⟩ := List.mem_map.mp h
        rw [← hz]
        exact hB⟩ hl _ hheap X'
  exact ⟨t1, step t1 a1, b1⟩
theorem g_clone {a idx : Nat} {r : Option Nat} (X : gX p s m args meth c D cy B Fs own cc ws nL) (h1 : Cond.methodLink own idx ⟨"[B", "clone", "()Ljava/lang/Object;"⟩ ∈ ws) (h2 : Cond.sameMethod "[B" "java/lang/Object" "clone" "()Ljava/lang/Object;" ∈ ws) (h3 : Cond.native ⟨"java/lang/Object", "clone", "()Ljava/lang/Object;"⟩ ∈ ws) (h4 : Cond.instanceMethod ⟨"java/lang/Object", "clone", "()Ljava/lang/Object;"⟩ ∈ ws) (h5 : Cond.selects "[B" ⟨"[B", "clone", "()Ljava/lang/Object;"⟩ ⟨"java/lang/Object", "clone", "()Ljava/lang/Object;"⟩ ∈ ws) (hcl : va_Nw (.castable "[B" "java/lang/Cloneable") s) (ha : r = some a) (hT : mT M a = 22) (hby : ∀ i, i < mL M a → i2bV (mI M a i) = mI M a i) (hfr : 1 ≤ R.frames) (hlo : (st.map gw).sum + 14 ≤ R.locals) (hk : k + 1 ≤ R.cells ∧ n + mL M a ≤ R.slots) (hd : decode cc pc = .ok (.invokevirtual idx, 3))
    (kk : gGo p l e R s m args below meth c D cy B H0 nL (k + 1) (n + mL M a) Q (pc + 3) (lv) (vR (some (mN M)) :: st) (clM M a)) : gGo p l e R s m args below meth c D cy B H0 nL k n Q (pc) (lv) (vR r :: st) (M) := fun H locs ls hW hS hl => by
  subst ha
  have hat := (hW.2.2.2 a (by omega)).2
  rw [gE_byte hT] at hat
  have hcell : H[a]? = some (vp_cell (cy 22) (mL M a, .inl (mI M a))) := hat
  have hnm : s.vm.findClass "[B" = some (cy 22) := (X.2.2.2.2.2.1.2 2 _ rfl).2
  have hN : H.size = mN M := hW.1
  obtain ⟨c0, t0', f1, f2, f3⟩ := Cond.castable_spec (va_Nw.use (A := args) rfl hcl)
  cases hnm.symm.trans f1
  intro T hT' X0
  obtain ⟨-, kA, hkA, comp, hkind⟩ := State.isArrayOf_alike X0.warmed.alike ((X.2.2.2.2.2.1.2 2 _ rfl).1 0 (fun _ => .null))
  obtain ⟨-, kS, hkS, compS, hkindS⟩ := (X.2.2.2.2.2.1.2 2 _ rfl).1 0 (fun _ => .null)
  have hsz : (vp_cell (cy 22) (mL M a, .inl (mI M a))).slots.size = mL M a := arrV_size _ _ _
  obtain ⟨vm', X', step⟩ := X0.cloneArray X.1 X.2.2.2.1 (X.2.2.1 _ h1) (X.2.2.1 _ h2) (X.2.2.1 _ h3) (X.2.2.1 _ h4) (X.2.2.1 _ h5) (a := a) (cell := vp_cell (cy 22) (mL M a, .inl (mI M a))) (by rw [hT']; exact hcell) (fun _ h => by cases h) (fun h => by cases h) hnm f2 f3
    (fun i v hv => by
      have hi : i < mL M a := by
        have := (Array.getElem?_eq_some_iff.mp hv).1
        rw [hsz] at this; exact this
      have hv' : v = .int (mI M a i) := by
        have h : (arrV (cy 22) (mL M a) (fun j => .int (mI M a j))).slots[i]? = some v := hv
        rw [arrV_read _ _ hi] at h
        exact (Option.some.inj h).symm
      have hk' : T.vm.classes[cy 22]? = some kA := hkA
      have hb := hby i hi
      show T.fitsSlot (cy 22) .none i v = true
      subst hv'
      have hf : fits .byte (.int (mI M a i)) = true := fit_b hb
      simpa [State.fitsSlot, State.slotType?, hk', hkind] using hf)
    (g := F0 m pc ls ((vR (some a) :: st).map gv)) rfl (by rw [X.2.2.2.2.1]; exact hl.1) (rest := st.map gv) rfl (by rw [X.2.1]; exact hd) hfr (by show 2 * 0 + _ + 14 ≤ _; rw [gcats]; omega) hk.1 (by rw [hsz]; exact hk.2) (hloader := Vm.clonesLoader_of_array hkS hkindS)
  have hcE : ({ cls := (vp_cell (cy 22) (mL M a, .inl (mI M a))).cls, slots := (vp_cell (cy 22) (mL M a, .inl (mI M a))).slots } : Cell) = vp_cell (cy 22) (mL M a, .inl (mI M a)) := rfl
  rw [hcE, hsz] at X'
  rw [hcE] at step
  generalize hH1 : H.push (vp_cell (cy 22) (mL M a, .inl (mI M a))) = H1
  have z1 : H1.size = H.size + 1 := by rw [← hH1, Array.size_push]
  have e1 : H1[H.size]? = some (vp_cell (cy 22) (mL M a, .inl (mI M a))) := by rw [← hH1, Array.getElem?_push_size]
  have o1 : ∀ q : Nat, q < H.size → H1[q]? = H[q]? := fun q hq => by rw [← hH1, Array.getElem?_push, if_neg (Nat.ne_of_lt hq)]
  have hW' : gW D cy B H0 (clM M a) H1 := by
    obtain ⟨w1, w2, w3, w4⟩ := hW
    refine ⟨by rw [z1, w1]; rfl, Nat.le_succ_of_le w2, fun q hq => by rw [o1 q (by omega)]; exact w3 q hq, fun b hb => ?_⟩
    by_cases h : b = mN M
    · subst h
      refine ⟨w2, ?_⟩
      rw [gE_byte (M := clM M a) (by simp [clM, mT, up1]), ← hN]
      show H1[H.size]? = some (vp_cell _ _)
      rw [e1, hN]
      simp [clM, mL, mI, up1]
    · have hTb : mT (clM M a) b = mT M b := by simp [clM, mT, up1, h]
      rw [hTb] at hb
      refine ⟨(w4 b hb).1, ?_⟩
      rw [gE_congr (M := M) (M' := clM M a) (cy := cy) hTb (by simp [clM, mL, up1, h]) (by simp [clM, mI, up1, h]) (by simp [clM, mR, up1, h]) (by simp [clM, mJ, up1, h])]
      exact (w4 b hb).2.kept (o1 b ((w4 b hb).2.lt))
  obtain ⟨t, b1, b2⟩ := kk H1 locs ls hW' (gS_new hS z1 o1) hl ((T.setVm vm').pushCell (vp_cell (cy 22) (mL M a, .inl (mI M a)))) (by rw [← hH1, ← hT']; rfl) X'
  refine ⟨t, step t ?_, b2⟩
  rw [hT', hN]
  exact b1
variable {y : MethodName} {bytes : ByteArray} {maxL mc ms np index : Nat} {ret : Option FieldType} {ws' : List Cond} {rm : Room} {As : List gV} {r : Option Nat} {b ci : Nat} {v : Option gV}
theorem g_callSU {C : vw_C} (X : gX p s m args meth c D cy B Fs own cc ws nL) (hM : Met l y ws' rm (va_Pc (Value.ref b :: As.map gv) (gPre D cy B H0 Fs M)) (gQ D cy B H0 v M1) mc ms (gA B)) (cw : va_CS R s args own index y bytes maxL ret ws' rm mc ms np) (hst : stk = As.reverse ++ vR r :: st) (hn : As.length = np) (ha : r = some b) (hT : mT M b = ci + 1) (hlt : ci + 1 < 20) (hc : vwCl[ci]? = some C) (hroom : (st.map gw).sum ≤ 8) (hd : decode cc pc = .ok (.invokespecial index, 3)) (hf : k + mc ≤ R.cells ∧ n + ms ≤ R.slots)
    (kk : gGo p l e R s m args below meth c D cy B H0 nL (k + mc) (n + ms) Q (pc + 3) (lv) (v.toList ++ st) (M1)) : gGo p l e R s m args below meth c D cy B H0 nL k n Q (pc) (lv) (stk) (M) := by
  subst hst; subst ha
  refine g_run (mc := mc) (ms := ms) (v := v) (a := (Value.ref b :: As.map gv).toArray) (fun H locs ls hW hS hl => ?_) kk
  refine va_runSU (C := C.1) (As := As.map gv) (rest := st.map gv) (X.2.2.2.2.2.1.1 ci C hc).2 (gX_fix X) hM cw ⟨gPre_blind, gW_recv X hW hT hlt hc, fun U hU hw => gPre_at X hW hU hw⟩ rfl (by rw [List.length_map]; exact hn) hl.1 ?_ (groom hroom) hd hf
  show ((As.reverse ++ vR (some b) :: st).map gv) = _
  rw [List.map_append, List.map_reverse]; rfl
/-- the outer row with its first i places filled -/
def mnO (cA : ClassId) (n a i : Nat) : Cell := vp_cell cA (n, .inr (.inr (.inr (.inr (fun j => if j < i then some (a + 1 + j) else none)))))
/-- the machine with the outer row and i inner ones made -/
def mnU (T : State) (cA comp : ClassId) (n k : Nat) : Nat → State
  | 0 => T.pushCell (mnO cA n T.heap.size 0)
  | i + 1 => ((mnU T cA comp n k i).pushCell (vp_cell comp (k, .inl (fun _ => 0)))).setCell T.heap.size (mnO cA n T.heap.size (i + 1))
theorem mnO_sz (cA : ClassId) (n a i : Nat) : (mnO cA n a i).slots.size = n := arrV_size _ _ _
theorem mnO_set (cA : ClassId) (n a i : Nat) : (mnO cA n a i).setSlot i (.ref (a + 1 + i)) = mnO cA n a (i + 1) := by
  unfold mnO
  rw [vp_cell_q, vp_cell_q, arrV_store]
  congr 1
  funext j
  by_cases h : j = i
  · subst h
    simp [updV, va_rf]
  · by_cases h2 : j < i
    · simp [updV, h, h2, show j < i + 1 by omega]
    · simp [updV, h, h2, show ¬ j < i + 1 by omega]
theorem mnU_f (T : State) (cA comp : ClassId) (n k : Nat) : ∀ i, (mnU T cA comp n k i).heap.size = T.heap.size + 1 + i ∧ (mnU T cA comp n k i).heap[T.heap.size]? = some (mnO cA n T.heap.size i) ∧ (mnU T cA comp n k i).vm = T.vm ∧ (mnU T cA comp n k i).slotsUsed = T.slotsUsed + n + i * k
  | 0 => ⟨by simp [mnU], by simp [mnU], rfl, by simp [mnU, mnO_sz]⟩
  | i + 1 => by
    obtain ⟨h1, h2, h3, h4⟩ := mnU_f T cA comp n k i
    have hlt : T.heap.size < (mnU T cA comp n k i).heap.size := by omega
    have hb : ((mnU T cA comp n k i).pushCell (vp_cell comp (k, .inl (fun _ => 0)))).heap[T.heap.size]? = some (mnO cA n T.heap.size i) := by rw [State.heap_pushCell_of_lt (h := hlt)]; exact h2
    have hs : (vp_cell comp (k, .inl (fun _ => 0))).slots.size = k := arrV_size _ _ _
    refine ⟨?_, State.heap_setCell_self hb, h3, ?_⟩
    · simp [mnU, State.setCell, h1]; omega
    · simp [mnU, h4, hs, Nat.succ_mul]; omega
theorem mnU_top (T : State) (f : JFrame) (cA comp : ClassId) (n k : Nat) : ∀ i, mnU (T.setTop f) cA comp n k i = (mnU T cA comp n k i).setTop f
  | 0 => rfl
  | i + 1 => by
    show ((mnU (T.setTop f) cA comp n k i).pushCell _).setCell T.heap.size _ = _
    rw [mnU_top T f cA comp n k i]
    rfl
theorem mnU_S {T : State} {locs : List Loc} {cells slots : Nat} (X : Stand p l e R s m args below meth c T locs cells slots) (cA comp : ClassId) (n k : Nat) : ∀ i, Stand p l e R s m args below meth c (mnU T cA comp n k i) (locs ++ (List.range i).map fun j => ⟨T.heap.size, j⟩) (cells + 1 + i) (slots + n + i * k)
  | 0 => by
    have h := X.pushed (mnO cA n T.heap.size 0)
    rw [mnO_sz] at h
    simpa [mnU] using h
  | i + 1 => by
    have Xi := mnU_S X cA comp n k i
    obtain ⟨h1, h2, -, -⟩ := mnU_f T cA comp n k i
    have hlt : T.heap.size < (mnU T cA comp n k i).heap.size := by omega
    have hb : ((mnU T cA comp n k i).pushCell (vp_cell comp (k, .inl (fun _ => 0)))).heap[T.heap.size]? = some (mnO cA n T.heap.size i) := by rw [State.heap_pushCell_of_lt (h := hlt)]; exact h2
    have h := (Xi.pushed (vp_cell comp (k, .inl (fun _ => 0)))).stored hb i (.ref (T.heap.size + 1 + i))
    rw [mnO_set, show (vp_cell comp (k, .inl (fun _ => 0))).slots.size = k from arrV_size _ _ _] at h
    have e2 : (locs ++ (List.range (i + 1)).map fun j => (⟨T.heap.size, j⟩ : Loc)) = (locs ++ (List.range i).map fun j => (⟨T.heap.size, j⟩ : Loc)) ++ [⟨T.heap.size, i⟩] := by simp [List.range_succ, List.append_assoc]
    have e3 : slots + n + (i + 1) * k = slots + n + i * k + k := by rw [Nat.succ_mul]; omega
    rw [e2, e3]
    exact h
/-- the memory follows -/
theorem mnU_W {T : State} {n k : Nat} (hW : gW D cy B H0 M T.heap) : ∀ i, i ≤ n → gW D cy B H0 (mnS k (mN M) i (nW M 28 n)) (mnU T (cy 28) (cy 20) n k i).heap ∧ mT (mnS k (mN M) i (nW M 28 n)) (mN M) = 28 ∧ mL (mnS k (mN M) i (nW M 28 n)) (mN M) = n ∧ (∀ j, mR (mnS k (mN M) i (nW M 28 n)) (mN M) j = if j < i then some (mN M + 1 + j) else none)
  | 0, _ => by
    have hN : T.heap.size = mN M := hW.1
    refine ⟨?_, by simp [mnS, nW, mT, up1], by simp [mnS, nW, mL, up1], fun j => by simp [mnS, nW, mR, up1]⟩
    refine gW_new hW (by simp [mnU]) (fun q hq => State.heap_pushCell_of_lt _ _ hq) ?_
    rw [gE_ref (M := nW M 28 n) (t := 28) (by simp [nW, mT, up1]) (by decide)]
    show (T.pushCell (mnO (cy 28) n T.heap.size 0)).heap[mN M]? = some (vp_cell _ _)
    rw [← hN, State.heap_pushCell_size]
    simp [mnO, nW, mL, mR, up1, hN]
  | i + 1, hi => by
    have hN : T.heap.size = mN M := hW.1
    obtain ⟨w, w1, w2, w3⟩ := mnU_W (n := n) (k := k) hW i (by omega)
    obtain ⟨f1, f2, -, -⟩ := mnU_f T (cy 28) (cy 20) n k i
    generalize hMi : mnS k (mN M) i (nW M 28 n) = Mi at w w1 w2 w3
    have hNi : mN Mi = mN M + 1 + i := by rw [← hMi, mnS_N]; show mN M + 1 + i = _; rfl
    generalize hUi : mnU T (cy 28) (cy 20) n k i = Ui at w f1 f2
    have hne : mN M ≠ mN Mi := by omega
    have g1 : gW D cy B H0 (nW Mi 20 k) (Ui.pushCell (vp_cell (cy 20) (k, .inl (fun _ => 0)))).heap := by
      refine gW_new w (by simp) (fun q hq => State.heap_pushCell_of_lt _ _ hq) ?_
      rw [gE_int (M := nW Mi 20 k) (by simp [nW, mT, up1])]
      show (Ui.pushCell _).heap[mN Mi]? = some (vp_cell _ _)
      rw [← w.1, State.heap_pushCell_size]
      simp [nW, mL, mI, up1, w.1]
    have hT2 : mT (nW Mi 20 k) (mN M) = 28 := by simp [nW, mT, up1, hne]; exact w1
    have hL2 : mL (nW Mi 20 k) (mN M) = n := by simp [nW, mL, up1, hne]; exact w2
    have hR2 : ∀ j, mR (nW Mi 20 k) (mN M) j = if j < i then some (mN M + 1 + j) else none := fun j => by
      rw [← w3 j]; simp [nW, mR, up1, hne]
    have hlt : mN M < (Ui.pushCell (vp_cell (cy 20) (k, .inl (fun _ => 0)))).heap.size := by simp; omega
    have hM2 : mnS k (mN M) (i + 1) (nW M 28 n) = wR (nW Mi 20 k) (mN M) i (some (mN M + 1 + i)) := by
      show wR (nW (mnS k (mN M) i (nW M 28 n)) 20 k) (mN M) i _ = _
      rw [hMi]
    have hU2 : mnU T (cy 28) (cy 20) n k (i + 1) = (Ui.pushCell (vp_cell (cy 20) (k, .inl (fun _ => 0)))).setCell T.heap.size (mnO (cy 28) n T.heap.size (i + 1)) := by
      show ((mnU T (cy 28) (cy 20) n k i).pushCell _).setCell T.heap.size _ = _
      rw [hUi]
    rw [hM2, hU2, hN]
    have hR3 : ∀ j, mR (wR (nW Mi 20 k) (mN M) i (some (mN M + 1 + i))) (mN M) j = if j < i + 1 then some (mN M + 1 + j) else none := fun j => by
      by_cases h : j = i
      · subst h; simp [wR, mR, up2]
      · have h0 := hR2 j
        by_cases h2 : j < i
        · rw [if_pos h2] at h0; rw [if_pos (by omega)]; simp [wR, mR, up2, h]; exact h0
        · rw [if_neg h2] at h0; rw [if_neg (by omega)]; simp [wR, mR, up2, h]; exact h0
    refine ⟨?_, hT2, hL2, hR3⟩
    refine gW_set g1 (by rw [hT2]; decide) ?_ (by simp [State.setCell]) (fun q hq => heapAt_setCell_ne _ (Ne.symm hq)) rfl rfl (fun q hq => gE_wR hq)
    rw [gE_ref (M := wR (nW Mi 20 k) (mN M) i (some (mN M + 1 + i))) (t := 28) hT2 (by decide)]
    show ((Ui.pushCell _).setCell (mN M) _).heap[mN M]? = some (vp_cell _ _)
    rw [heapAt_setCell_self _ hlt]
    have e1 : mL (wR (nW Mi 20 k) (mN M) i (some (mN M + 1 + i))) (mN M) = n := hL2
    have e2 : mR (wR (nW Mi 20 k) (mN M) i (some (mN M + 1 + i))) (mN M) = fun j => if j < i + 1 then some (mN M + 1 + j) else none := funext hR3
    rw [e1, e2]
    rfl
section MNW
variable {E : CtlPost} {d : Bool} {acts : List Action}
/-- one row is made -/
theorem mn_arr {cR comp : ClassId} {kc : Class} {ty : FieldType} {len : Nat} {init : Value} {U : State} (hk : U.vm.classes[cR]? = some kc) (hkind : kc.kind = .array comp ty) (h1 : ¬ len > e.platform.arrayLengthLimit) (h2 : ¬ len * componentBytes ty > e.platform.maxHeapBytes) (hf : fits ty init = true) (h3 : U.heap.size < e.platform.maxCells) (h4 : U.slotsUsed + len ≤ e.platform.maxSlots) {Qp : Addr → Pre} (hq : ∀ d' a', Qp U.heap.size d' a' (U.pushCell (arrV cR len (fun _ => init)))) : wp (Jvm.newArray cR len init) Qp E e d acts U := by
  have hfits : ∀ i v, (Array.replicate len init)[i]? = some v → U.fitsSlot cR .none i v = true := by
    intro i v hv
    rw [Array.getElem?_replicate] at hv
    split at hv
    · cases hv; simp [State.fitsSlot, State.slotType?, hk, hkind, hf]
    · cases hv
  have h5 := hq d (allocActs (Array.replicate len init) U.heap.size acts)
  rw [← arrV_new] at h5
  simp only [Jvm.newArray, Jvm.arrayFits, wp_bind', W.ask, W.ite, h1, if_false, wp_pure', W.theClass, hk, hkind, h2, W.alloc, W.stop, Option.some.injEq, exists_eq_left', Array.size_replicate]
  rw [if_neg (by omega)]
  exact ⟨h3, h4, hfits, h5⟩
theorem mn_make {T : State} {cA comp cI : ClassId} {kA kC : Class} {z w : Int32} (hkA : T.vm.classes[cA]? = some kA) (hA : kA.kind = .array comp (.array .int)) (hkC : T.vm.classes[comp]? = some kC) (hC : kC.kind = .array cI .int) (hz : ¬ z < 0) (hw : ¬ w < 0)
    (hl1 : ¬ z.toNatClampNeg > e.platform.arrayLengthLimit) (hh1 : ¬ z.toNatClampNeg * componentBytes (.array .int) > e.platform.maxHeapBytes) (hl2 : ¬ w.toNatClampNeg > e.platform.arrayLengthLimit) (hh2 : ¬ w.toNatClampNeg * componentBytes .int > e.platform.maxHeapBytes)
    (hc : T.heap.size + 1 + z.toNatClampNeg ≤ e.platform.maxCells) (hs : T.slotsUsed + z.toNatClampNeg + z.toNatClampNeg * w.toNatClampNeg ≤ e.platform.maxSlots)
    {Qp : Addr → Pre} (hq : ∀ d' a', Qp T.heap.size d' a' (mnU T cA comp z.toNatClampNeg w.toNatClampNeg z.toNatClampNeg)) : wp (multianewarray.make cA [z, w]) Qp E e d acts T := by
  have hfind : ([w].find? (· < 0)) = none := by simp [hw]
  have hmk : ∀ (U : State) (d' : Bool) (a' : List Action) (Q1 : Addr → Pre), U.vm = T.vm → U.heap.size < e.platform.maxCells → U.slotsUsed + w.toNatClampNeg ≤ e.platform.maxSlots → (∀ d2 a2, Q1 U.heap.size d2 a2 (U.pushCell (arrV comp w.toNatClampNeg (fun _ => .int 0)))) → wp (multianewarray.make comp [w]) Q1 E e d' a' U := by
    intro U d' a' Q1 hv g1 g2 g3
    have hkU : U.vm.classes[comp]? = some kC := by rw [hv]; exact hkC
    rw [multianewarray.make]
    simp only [wp_bind', W.ite, hw, if_false, wp_pure', W.theClass, hkU, hC, Option.some.injEq, exists_eq_left']
    exact mn_arr (init := .int 0) hkU hC hl2 hh2 rfl g1 g2 g3
  rw [multianewarray.make]
  simp only [wp_bind', W.ite, hz, if_false, wp_pure', W.theClass, hkA, hA, Option.some.injEq, exists_eq_left']
  refine mn_arr hkA hA hl1 hh1 rfl (by omega) (by have := Nat.zero_le (z.toNatClampNeg * w.toNatClampNeg); omega) (fun d1 a1 => ?_)
  simp only [hfind]
  rw [ite_self, wp_bind', Std.Legacy.Range.forIn_eq_forIn_range']
  have hsz : ([:z.toNatClampNeg] : Std.Legacy.Range).size = z.toNatClampNeg := by simp [Std.Legacy.Range.size]
  rw [hsz]
  show wp (forIn (List.range' 0 z.toNatClampNeg 1) PUnit.unit _) _ E e d1 a1 _
  refine wp_forIn_inv (fun rest s' => ∃ i, i ≤ z.toNatClampNeg ∧ rest = List.range' i (z.toNatClampNeg - i) ∧ s' = mnU T cA comp z.toNatClampNeg w.toNatClampNeg i) _ _ ⟨0, Nat.zero_le _, rfl, ?_⟩ ?_ ?_
  · show T.pushCell (arrV cA z.toNatClampNeg (fun _ => .null)) = T.pushCell (mnO cA z.toNatClampNeg T.heap.size 0)
    congr 1
  · rintro x rest s' d' a' Q' ⟨i, hi, hl, rfl⟩ hnext
    have hlt : i < z.toNatClampNeg := by
      rcases Nat.lt_or_ge i z.toNatClampNeg with h | h
      · exact h
      · rw [show z.toNatClampNeg - i = 0 by omega] at hl; simp at hl
    obtain ⟨rfl, hrest⟩ : x = i ∧ rest = List.range' (i + 1) (z.toNatClampNeg - (i + 1)) := by
      rw [show z.toNatClampNeg - i = (z.toNatClampNeg - (i + 1)) + 1 by omega, List.range'_succ] at hl
      exact ⟨(List.cons.inj hl).1, (List.cons.inj hl).2⟩
    obtain ⟨f1, f2, f3, f4⟩ := mnU_f T cA comp z.toNatClampNeg w.toNatClampNeg x
    have hmul : x * w.toNatClampNeg + w.toNatClampNeg ≤ z.toNatClampNeg * w.toNatClampNeg := by
      have := Nat.mul_le_mul_right w.toNatClampNeg (show x + 1 ≤ z.toNatClampNeg from hlt)
      rw [Nat.succ_mul] at this; exact this
    have hlt0 : T.heap.size < (mnU T cA comp z.toNatClampNeg w.toNatClampNeg x).heap.size := by rw [f1]; omega
    simp only [wp_bind']
    refine hmk _ d' a' _ f3 (by rw [f1]; omega) (by rw [f4]; omega) (fun d2 a2 => ?_)
    simp only [wp_bind', W.writeLoc, wp_pure']
    refine ⟨mnO cA z.toNatClampNeg T.heap.size x, by rw [State.heap_pushCell_of_lt (h := hlt0)]; exact f2, (fun h => by cases h), by rw [mnO_sz]; exact hlt, ?_, hnext _ _ _ ⟨x + 1, hlt, hrest, ?_⟩⟩
    · show State.fitsSlot _ cA .none x _ = true
      have hk' : (mnU T cA comp z.toNatClampNeg w.toNatClampNeg x).vm.classes[cA]? = some kA := by rw [f3]; exact hkA
      simp [State.fitsSlot, State.slotType?, hk', hA, fits]
    · rw [f1, mnO_set]; rfl
  · rintro s' d' a' ⟨i, hi, hl, rfl⟩
    have hiN : i = z.toNatClampNeg := by
      rcases Nat.lt_or_ge i z.toNatClampNeg with h | h
      · rw [show z.toNatClampNeg - i = (z.toNatClampNeg - (i + 1)) + 1 by omega, List.range'_succ] at hl; cases hl
      · omega
    subst hiN
    simp only [wp_pure']
    exact hq _ _
end MNW
theorem g_mnew {N K idx : Nat} {z w : Int32} (X : gX p s m args meth c D cy B Fs own cc ws nL) (hAO : va_Nw (Cond.arrayOver (.array .int)) s) (h1 : Cond.classLink own idx "[[I" ∈ ws) (h2 : Cond.arrayClass .int ∈ ws) (hz : ¬ z < 0) (hzN : z.toNatClampNeg ≤ N) (hw : ¬ w < 0) (hwK : w.toNatClampNeg ≤ K) (hk : k + (1 + N) ≤ R.cells ∧ n + (N + N * K) ≤ R.slots) (hd : decode cc pc = .ok (.multianewarray idx 2, 4))
    (hNK : N ≤ 100 ∧ K ≤ 100) (kk : gGo p l e R s m args below meth c D cy B H0 nL (k + (1 + N)) (n + (N + N * K)) Q (pc + 4) (lv) (vR (some (mN M)) :: st) (mnM M z.toNatClampNeg w.toNatClampNeg)) : gGo p l e R s m args below meth c D cy B H0 nL k n Q (pc) (lv) (vI w :: vI z :: st) (M) := fun H locs ls hW hS hl => by
  intro T hT X0
  have hmul : z.toNatClampNeg * w.toNatClampNeg ≤ N * K := Nat.mul_le_mul hzN hwK
  have hN : H.size = mN M := hW.1
  have hpl : e.platform.magicAccessors = ({} : Platform).magicAccessors := by rw [X0.admits.platform]
  obtain ⟨comp, cA, kA, q1, q2, q3, q4, q5⟩ := arrayOverA_spec (args := #[]) (first := s) (o := none) (idx := []) hAO
  obtain ⟨comp', kC, cI, c1, c2, c3⟩ := Cond.arrayClass_spec (X.2.2.1 _ h2)
  cases q1.symm.trans c1
  have h28 : cA = cy 28 := Option.some.inj (q5.symm.trans (X.2.2.2.2.2.1.2 8 _ rfl).2)
  have h20 : comp = cy 20 := Option.some.inj (q1.symm.trans (X.2.2.2.2.2.1.2 0 _ rfl).2)
  subst h28
  subst h20
  obtain ⟨c0, hfc0, hcl⟩ := Cond.classLink_spec X.2.2.2.1 (X.2.2.1 _ h1) e.platform hpl
  have h29 : c0 = cy 28 := Option.some.inj (hfc0.symm.trans q5)
  subst h29
  generalize hg : F0 m pc ls ((vI w :: vI z :: st).map gv) = g
  obtain ⟨g1, hwarm, hready⟩ := State.classEntry (e := e) X0.warmed hcl
  have hsz : (T.vm.noted m.cls idx (.cls (cy 28))).classes.size ≤ T.vm.classes.size := by no_record
  generalize T.vm.noted m.cls idx (.cls (cy 28)) = vm₁ at g1 hwarm hready hsz
  have X1 := X0.noted hwarm
  obtain ⟨kA₁, hkA₁, heA⟩ := hwarm.alike.2.2 _ _ q3
  obtain ⟨kC₁, hkC₁, heC⟩ := hwarm.alike.2.2 _ _ c2
  obtain ⟨r1, r2⟩ := X0.roomAbove (show k + (1 + z.toNatClampNeg) ≤ R.cells by omega) (show n + (z.toNatClampNeg + z.toNatClampNeg * w.toNatClampNeg) ≤ R.slots by omega)
  have XF := mnU_S X1 (cy 28) (cy 20) z.toNatClampNeg w.toNatClampNeg z.toNatClampNeg
  have hW1 : gW D cy B H0 M (T.setVm vm₁).heap := by show gW D cy B H0 M T.heap; rw [hT]; exact hW
  have hWF := (mnU_W (k := w.toNatClampNeg) (n := z.toNatClampNeg) hW1 z.toNatClampNeg (Nat.le_refl _)).1
  obtain ⟨f1, f2, -, -⟩ := mnU_f (T.setVm vm₁) (cy 28) (cy 20) z.toNatClampNeg w.toNatClampNeg z.toNatClampNeg
  have hS' : va_S (gA B) s.heap (mnU (T.setVm vm₁) (cy 28) (cy 20) z.toNatClampNeg w.toNatClampNeg z.toNatClampNeg).heap (locs ++ (List.range z.toNatClampNeg).map fun j => (⟨T.heap.size, j⟩ : Loc)) := by
    refine ⟨Nat.le_trans hS.1 (by rw [f1]; show H.size ≤ T.heap.size + 1 + _; rw [hT]; omega), fun q a1 a2 => ?_, fun q hq => ?_⟩
    · rw [hWF.2.2.1 q (Nat.not_le.mp a2), ← hW.2.2.1 q (Nat.not_le.mp a2)]; exact hS.2.1 q a1 a2
    · rcases List.mem_append.mp hq with h | h
      · exact hS.2.2 q h
      · obtain ⟨j, -, hj⟩ := List.mem_map.mp h
        rw [← hj]
        show B ≤ T.heap.size
        rw [hT, hN]; exact hW.2.1
  obtain ⟨t, a1, b1⟩ := W.widen (show k + 1 + z.toNatClampNeg ≤ k + (1 + N) by omega) (show n + z.toNatClampNeg + z.toNatClampNeg * w.toNatClampNeg ≤ n + (N + N * K) by omega) (kk _ _ ls hWF hS' hl) _ rfl XF
  refine ⟨t, ?_, b1⟩
  subst hg
  have hl1 : ¬ z.toNatClampNeg > e.platform.arrayLengthLimit := by rw [Launch.admits_arrayLengthLimit X0.admits]; omega
  have hl2 : ¬ w.toNatClampNeg > e.platform.arrayLengthLimit := by rw [Launch.admits_arrayLengthLimit X0.admits]; omega
  have hh1 : ¬ z.toNatClampNeg * componentBytes (.array .int) > e.platform.maxHeapBytes := by rw [Launch.admits_maxHeapBytes X0.admits]; show ¬ z.toNatClampNeg * 4 > 536870912; omega
  have hh2 : ¬ w.toNatClampNeg * componentBytes .int > e.platform.maxHeapBytes := by rw [Launch.admits_maxHeapBytes X0.admits]; show ¬ w.toNatClampNeg * 4 > 536870912; omega
  have hd' : decode c.code pc = .ok (.multianewarray idx 2, 4) := by rw [X.2.1]; exact hd
  jvm_step X0.here [X.1, hd']
  simp only [multianewarray.sem, wp_bind']
  have hmt : (T.setTop (F0 m pc ls (gv (vI w) :: gv (vI z) :: st.map gv))).method? = some m := State.method?_setTop (F0 m pc ls (gv (vI w) :: gv (vI z) :: st.map gv)) X0.here.top
  rw [W.resolveClassAt_links (vm' := vm₁) hmt g1 hsz]
  rw [show (T.setTop (F0 m pc ls (gv (vI w) :: gv (vI z) :: st.map gv))).setVm vm₁ = (T.setVm vm₁).setTop (F0 m pc ls (gv (vI w) :: gv (vI z) :: st.map gv)) from rfl]
  simp only [wp_bind']
  rw [W.popN, if_neg (by decide)]
  refine ⟨_, State.topJava?_setTop' (s := T.setVm vm₁) _ X0.here.top, [.int z, .int w], st.map gv, rfl, rfl, ?_⟩
  simp only [List.mapM_cons, List.mapM_nil, wp_bind', wp_pure']
  refine mn_make (kA := kA₁) (kC := kC₁) (comp := cy 20) hkA₁ (by rw [heA]; exact q4) hkC₁ (by rw [heC]; exact c3) hz hw hl1 hh1 hl2 hh2 (by show T.heap.size + 1 + _ ≤ _; omega) (by show T.slotsUsed + _ + _ ≤ _; omega) (fun d' a' => ?_)
  rw [mnU_top, mnU_top]
  simp only [wp_bind', W.mark, W.pushRef, State.topJava?_setTop' _ XF.here.top, Option.some.injEq, exists_eq_left', State.setTop_setTop, State.heap_setTop]
  intro acts
  simp [jvm, XF.here.top]
  rw [hT, hN]
  exact a1
end G4
