/-! The memory as functions: tag of a cell (0: none of ours; c+1: an object of vwCl's class c; 20 int[], 21 long[], 22 byte[], 23.. arrays of references), its length, its ints, references, longs; and the next address. -/
abbrev gMem : Type := (Nat → Nat) × (Nat → Nat) × (Nat → Nat → Int32) × (Nat → Nat → Option Nat) × (Nat → Nat → Int64) × Nat
abbrev mT (M : gMem) : Nat → Nat := M.1
abbrev mL (M : gMem) : Nat → Nat := M.2.1
abbrev mI (M : gMem) : Nat → Nat → Int32 := M.2.2.1
abbrev mR (M : gMem) : Nat → Nat → Option Nat := M.2.2.2.1
abbrev mJ (M : gMem) : Nat → Nat → Int64 := M.2.2.2.2.1
abbrev mN (M : gMem) : Nat := M.2.2.2.2.2
def up2 {α : Type} (f : Nat → Nat → α) (a k : Nat) (v : α) : Nat → Nat → α := fun b j => if b = a ∧ j = k then v else f b j
def up1 {α : Type} (f : Nat → α) (a : Nat) (v : α) : Nat → α := fun b => if b = a then v else f b
def wI (M : gMem) (a k : Nat) (v : Int32) : gMem := (mT M, mL M, up2 (mI M) a k v, mR M, mJ M, mN M)
def wR (M : gMem) (a k : Nat) (v : Option Nat) : gMem := (mT M, mL M, mI M, up2 (mR M) a k v, mJ M, mN M)
def wJ (M : gMem) (a k : Nat) (v : Int64) : gMem := (mT M, mL M, mI M, mR M, up2 (mJ M) a k v, mN M)
/-- a new cell at the next address, all its ints 0, its references null, its longs 0 -/
def nW (M : gMem) (t n : Nat) : gMem := (up1 (mT M) (mN M) t, up1 (mL M) (mN M) n, up1 (mI M) (mN M) (fun _ => 0), up1 (mR M) (mN M) (fun _ => none), up1 (mJ M) (mN M) (fun _ => 0), mN M + 1)
/-- n ints copied from the cell a, place i, to the cell b, place j -/
def cpI (M : gMem) (a i b j n : Nat) : gMem := (mT M, mL M, up1 (mI M) b (va_cpy (mI M a) (mI M b) i j n), mR M, mJ M, mN M)
/-- the fields of the classes of vwCl by their tags: true a reference, false an int or a boolean -/
def gLay : Nat → List (Option Bool)
  | 1 => [some false, some false, some false, some false, some false, some false, some false, some false, some false, some false, some true]
  | 2 => [some false, some false, some false, some false]
  | 3 => [some false, some false, some false, some true]
  | 4 => [some true, some false]
  | 5 => [some false, some false, some false, some false, some true, some false, some false, some false]
  | 6 => [some false, some true, some true, some true, some true, some true, some false, some false, some false]
  | 7 => [some false, some false, some false, some false, some false, some false, some true, some true, some true, some true, some true, some true, some true, some true, some true, some true, some true]
  | 8 => [some false, some true, some true, some true]
  | 9 => [some false, some true, some true, some true, some true, some false]
  | 10 => [some true, some true, some true, some false]
  | 11 => [some false, some false, some true, some true, some true, some false, some true, some true, some false, some false, none, some true, some true, some true, some true, some true, some true, some true, some true, some true]
  | 12 => [some true, some false, some false, some false]
  | 13 => [some true, some false, some false, some false]
  | _ => []
def gFl (M : gMem) (a : Nat) : List (Option Bool) → Nat → List Value
  | [], _ => []
  | some true :: r, k => va_rf (mR M a k) :: gFl M a r (k + 1)
  | some false :: r, k => .int (mI M a k) :: gFl M a r (k + 1)
  | none :: r, k => .long (mJ M a k) :: gFl M a r (k + 1)
theorem gFl_congr {M M' : gMem} {a : Nat} (h1 : mI M' a = mI M a) (h2 : mR M' a = mR M a) (h3 : mJ M' a = mJ M a) : ∀ (l : List (Option Bool)) (o : Nat), gFl M' a l o = gFl M a l o
  | [], _ => rfl
  | some true :: r, o => by simp only [gFl, h2, gFl_congr h1 h2 h3 r (o + 1)]
  | some false :: r, o => by simp only [gFl, h1, gFl_congr h1 h2 h3 r (o + 1)]
  | none :: r, o => by simp only [gFl, h3, gFl_congr h1 h2 h3 r (o + 1)]
theorem gFl_len {M : gMem} {a : Nat} : ∀ (l : List (Option Bool)) (o : Nat), (gFl M a l o).length = l.length
  | [], _ => rfl
  | some true :: r, o => by simp [gFl, gFl_len r (o + 1)]
  | some false :: r, o => by simp [gFl, gFl_len r (o + 1)]
  | none :: r, o => by simp [gFl, gFl_len r (o + 1)]
theorem gFl_below_I {M : gMem} {a k : Nat} {v : Int32} : ∀ (l : List (Option Bool)) (o : Nat), k < o → gFl (wI M a k v) a l o = gFl M a l o
  | [], _, _ => rfl
  | some true :: r, o, h => by simp only [gFl, gFl_below_I (M := M) (a := a) (k := k) (v := v) r (o + 1) (by omega)]; rfl
  | none :: r, o, h => by simp only [gFl, gFl_below_I (M := M) (a := a) (k := k) (v := v) r (o + 1) (by omega)]; rfl
  | some false :: r, o, h => by
    simp only [gFl, gFl_below_I (M := M) (a := a) (k := k) (v := v) r (o + 1) (by omega)]
    simp [wI, mI, up2, show ¬ o = k by omega]
theorem gFl_below_R {M : gMem} {a k : Nat} {v : Option Nat} : ∀ (l : List (Option Bool)) (o : Nat), k < o → gFl (wR M a k v) a l o = gFl M a l o
  | [], _, _ => rfl
  | some false :: r, o, h => by simp only [gFl, gFl_below_R (M := M) (a := a) (k := k) (v := v) r (o + 1) (by omega)]; rfl
  | none :: r, o, h => by simp only [gFl, gFl_below_R (M := M) (a := a) (k := k) (v := v) r (o + 1) (by omega)]; rfl
  | some true :: r, o, h => by
    simp only [gFl, gFl_below_R (M := M) (a := a) (k := k) (v := v) r (o + 1) (by omega)]
    simp [wR, mR, up2, show ¬ o = k by omega]
theorem gFl_below_J {M : gMem} {a k : Nat} {v : Int64} : ∀ (l : List (Option Bool)) (o : Nat), k < o → gFl (wJ M a k v) a l o = gFl M a l o
  | [], _, _ => rfl
  | some true :: r, o, h => by simp only [gFl, gFl_below_J (M := M) (a := a) (k := k) (v := v) r (o + 1) (by omega)]; rfl
  | some false :: r, o, h => by simp only [gFl, gFl_below_J (M := M) (a := a) (k := k) (v := v) r (o + 1) (by omega)]; rfl
  | none :: r, o, h => by
    simp only [gFl, gFl_below_J (M := M) (a := a) (k := k) (v := v) r (o + 1) (by omega)]
    simp [wJ, mJ, up2, show ¬ o = k by omega]
theorem gFl_J {M : gMem} {a : Nat} {v : Int64} : ∀ (l : List (Option Bool)) (o k : Nat), l[k]? = some none → gFl (wJ M a (o + k) v) a l o = (gFl M a l o).set k (.long v)
  | [], _, _, h => by simp at h
  | some true :: r, o, 0, h => by simp at h
  | some false :: r, o, 0, h => by simp at h
  | some true :: r, o, k + 1, h => by
    have := gFl_J (v := v) (M := M) (a := a) r (o + 1) k (by simpa using h)
    rw [show o + (k + 1) = o + 1 + k by omega]
    simp only [gFl, List.set_cons_succ, this]
    rfl
  | some false :: r, o, k + 1, h => by
    have := gFl_J (v := v) (M := M) (a := a) r (o + 1) k (by simpa using h)
    rw [show o + (k + 1) = o + 1 + k by omega]
    simp only [gFl, List.set_cons_succ, this]
    rfl
  | none :: r, o, 0, h => by
    simp only [gFl, List.set_cons_zero, Nat.add_zero, gFl_below_J (M := M) (a := a) (k := o) (v := v) r (o + 1) (by omega)]
    simp [wJ, mJ, up2]
  | none :: r, o, k + 1, h => by
    have := gFl_J (v := v) (M := M) (a := a) r (o + 1) k (by simpa using h)
    rw [show o + (k + 1) = o + 1 + k by omega]
    simp only [gFl, List.set_cons_succ, this]
    simp [wJ, mJ, up2, show ¬ o = o + 1 + k by omega]
theorem gFl_I {M : gMem} {a : Nat} {v : Int32} : ∀ (l : List (Option Bool)) (o k : Nat), l[k]? = some (some false) → gFl (wI M a (o + k) v) a l o = (gFl M a l o).set k (.int v)
  | [], _, _, h => by simp at h
  | none :: r, o, 0, h => by simp at h
  | none :: r, o, k + 1, h => by
    have := gFl_I (v := v) (M := M) (a := a) r (o + 1) k (by simpa using h)
    rw [show o + (k + 1) = o + 1 + k by omega]
    simp only [gFl, List.set_cons_succ, this]
    rfl
  | some true :: r, o, 0, h => by simp at h
  | some true :: r, o, k + 1, h => by
    have := gFl_I (v := v) (M := M) (a := a) r (o + 1) k (by simpa using h)
    rw [show o + (k + 1) = o + 1 + k by omega]
    simp only [gFl, List.set_cons_succ, this]
    rfl
  | some false :: r, o, 0, h => by
    simp only [gFl, List.set_cons_zero, Nat.add_zero, gFl_below_I (M := M) (a := a) (k := o) (v := v) r (o + 1) (by omega)]
    simp [wI, mI, up2]
  | some false :: r, o, k + 1, h => by
    have := gFl_I (v := v) (M := M) (a := a) r (o + 1) k (by simpa using h)
    rw [show o + (k + 1) = o + 1 + k by omega]
    simp only [gFl, List.set_cons_succ, this]
    simp [wI, mI, up2, show ¬ o = o + 1 + k by omega]
theorem gFl_R {M : gMem} {a : Nat} {v : Option Nat} : ∀ (l : List (Option Bool)) (o k : Nat), l[k]? = some (some true) → gFl (wR M a (o + k) v) a l o = (gFl M a l o).set k (va_rf v)
  | [], _, _, h => by simp at h
  | none :: r, o, 0, h => by simp at h
  | none :: r, o, k + 1, h => by
    have := gFl_R (v := v) (M := M) (a := a) r (o + 1) k (by simpa using h)
    rw [show o + (k + 1) = o + 1 + k by omega]
    simp only [gFl, List.set_cons_succ, this]
    rfl
  | some false :: r, o, 0, h => by simp at h
  | some false :: r, o, k + 1, h => by
    have := gFl_R (v := v) (M := M) (a := a) r (o + 1) k (by simpa using h)
    rw [show o + (k + 1) = o + 1 + k by omega]
    simp only [gFl, List.set_cons_succ, this]
    rfl
  | some true :: r, o, 0, h => by
    simp only [gFl, List.set_cons_zero, Nat.add_zero, gFl_below_R (M := M) (a := a) (k := o) (v := v) r (o + 1) (by omega)]
    simp [wR, mR, up2]
  | some true :: r, o, k + 1, h => by
    have := gFl_R (v := v) (M := M) (a := a) r (o + 1) k (by simpa using h)
    rw [show o + (k + 1) = o + 1 + k by omega]
    simp only [gFl, List.set_cons_succ, this]
    simp [wR, mR, up2, show ¬ o = o + 1 + k by omega]
/-- what the heap has at a cell of ours -/
def gE (cy : Nat → ClassId) (M : gMem) (a : Nat) : va_E :=
  if mT M a < 20 then .inr (mT M a - 1, gFl M a (gLay (mT M a)) 0)
  else if mT M a = 21 then .inl (cy 21, mL M a, .inr (.inl (mJ M a)))
  else if mT M a < 23 then .inl (cy (mT M a), mL M a, .inl (mI M a))
  else if mT M a = 29 then .inl (cy 29, mL M a, .inl (mI M a))
  else .inl (cy (mT M a), mL M a, .inr (.inr (.inr (.inr (mR M a)))))
theorem gE_congr {cy : Nat → ClassId} {M M' : gMem} {a : Nat} (h0 : mT M' a = mT M a) (h3 : mL M' a = mL M a) (h1 : mI M' a = mI M a) (h2 : mR M' a = mR M a) (h4 : mJ M' a = mJ M a) : gE cy M' a = gE cy M a := by
  simp only [gE, h0, h3, h1, h2, h4, gFl_congr h1 h2 h4]
theorem gE_obj {cy : Nat → ClassId} {M : gMem} {a ci : Nat} (h : mT M a = ci + 1) (hl : ci + 1 < 20) : gE cy M a = .inr (ci, gFl M a (gLay (ci + 1)) 0) := by
  unfold gE; rw [h, if_pos hl]; rfl
theorem gE_int {cy : Nat → ClassId} {M : gMem} {a : Nat} (h : mT M a = 20) : gE cy M a = .inl (cy 20, mL M a, .inl (mI M a)) := by
  simp [gE, h]
theorem gE_byte {cy : Nat → ClassId} {M : gMem} {a : Nat} (h : mT M a = 22) : gE cy M a = .inl (cy 22, mL M a, .inl (mI M a)) := by
  simp [gE, h]
theorem gE_long {cy : Nat → ClassId} {M : gMem} {a : Nat} (h : mT M a = 21) : gE cy M a = .inl (cy 21, mL M a, .inr (.inl (mJ M a))) := by
  simp [gE, h]
theorem gE_ref {cy : Nat → ClassId} {M : gMem} {a t : Nat} (h : mT M a = t) (ht : 23 ≤ t ∧ t < 29) : gE cy M a = .inl (cy t, mL M a, .inr (.inr (.inr (.inr (mR M a))))) := by
  unfold gE
  rw [h, if_neg (by omega), if_neg (by omega), if_neg (by omega), if_neg (by omega)]
theorem gE_bool {cy : Nat → ClassId} {M : gMem} {a : Nat} (h : mT M a = 29) : gE cy M a = .inl (cy 29, mL M a, .inl (mI M a)) := by
  simp [gE, h]
/-- the array classes, by their tags from 20 on -/
abbrev gTys (cy : Nat → ClassId) : List (ClassId × FieldType) := [(cy 20, .int), (cy 21, .long), (cy 22, .byte), (cy 23, .object "TideLots$Ground"), (cy 24, .object "TideLots$Fisher"), (cy 25, .object "TideLots$Go"), (cy 26, .object "TideLots$Pact"), (cy 27, .object "TideLots$Sign"), (cy 28, .array .int), (cy 29, .boolean)]
def gW (D : va_G) (cy : Nat → ClassId) (B : Nat) (H0 : Heap) (M : gMem) (H : Heap) : Prop :=
  H.size = mN M ∧ B ≤ mN M ∧ (∀ q : Nat, q < B → H[q]? = H0[q]?) ∧ ∀ a : Nat, mT M a ≠ 0 → B ≤ a ∧ va_at D vwCl (a, gE cy M a) H
abbrev gA (B : Nat) : Nat → Prop := fun q => B ≤ q
/-- the values of locals and of the stack: int, reference, long, double -/
abbrev gV : Type := Int32 ⊕ Option Nat ⊕ Int64 ⊕ UInt64
abbrev vI (x : Int32) : gV := .inl x
abbrev vR (r : Option Nat) : gV := .inr (.inl r)
abbrev vJ (x : Int64) : gV := .inr (.inr (.inl x))
abbrev vD (x : UInt64) : gV := .inr (.inr (.inr x))
def gv : gV → Value
  | .inl x => .int x
  | .inr (.inl r) => va_rf r
  | .inr (.inr (.inl x)) => .long x
  | .inr (.inr (.inr x)) => .double x
def gw : gV → Nat
  | .inl _ => 1
  | .inr (.inl _) => 1
  | .inr (.inr _) => 2
theorem gv_cat (v : gV) : (gv v).category = gw v := by
  rcases v with x | r | x | x
  · rfl
  · cases r <;> rfl
  · rfl
  · rfl
abbrev gq : Nat × gV → Nat × Value := fun q => (q.1, gv q.2)
theorem gcats (st : List gV) : ((st.map gv).map fun v => v.category).sum = (st.map gw).sum := by
  rw [List.map_map]
  exact congrArg List.sum (List.map_congr_left fun v _ => gv_cat v)
theorem groom {m : MethodId} {pc : Nat} {ls : Array Slot} {x : List Value} {st : List gV} (h : (st.map gw).sum ≤ 8) : 2 * (F0 m pc ls x).monitorRoom + ((st.map gv).map fun v => v.category).sum ≤ 8 := by
  refine lv_room ?_
  rw [gcats]; exact h
/-- locals: v written to i -/
def lvs (lv : List (Nat × gV)) (i : Nat) (v : gV) : List (Nat × gV) := (i, v) :: lv.filter (fun q => !(q.1 == i) && (!(q.1 == i + 1 && gw v == 2) && !(q.1 + 1 == i && gw q.2 == 2)))
theorem lvl {ls : Array Slot} {nL i : Nat} {lv : List (Nat × gV)} {v : gV} (h : lv_has ls nL (lv.map gq)) (hv : lv.lookup i = some v) : ls[i]? = some (.val (gv v)) := by
  have key : ∀ l : List (Nat × gV), l.lookup i = some v → (i, v) ∈ l := by
    intro l
    induction l with
    | nil => intro h; cases h
    | cons q l ih =>
      intro h
      obtain ⟨j, w⟩ := q
      rw [List.lookup_cons] at h
      split at h
      · rename_i e
        cases h
        rw [eq_of_beq e]
        exact List.mem_cons_self
      · exact List.mem_cons_of_mem _ (ih h)
  exact h.2.2 (i, gv v) (List.mem_map.mpr ⟨(i, v), key _ hv, rfl⟩)
theorem lvl_pos {i : Nat} {lv : List (Nat × gV)} {v : gV} (hv : lv.lookup i = some v) : ∃ k : Nat, (lv.map gq)[k]? = some (i, gv v) := by
  have key : ∀ l : List (Nat × gV), l.lookup i = some v → (i, v) ∈ l := by
    intro l
    induction l with
    | nil => intro h; cases h
    | cons q l ih =>
      intro h
      obtain ⟨j, w⟩ := q
      rw [List.lookup_cons] at h
      split at h
      · rename_i e
        cases h
        rw [eq_of_beq e]
        exact List.mem_cons_self
      · exact List.mem_cons_of_mem _ (ih h)
  exact List.getElem?_of_mem (List.mem_map.mpr ⟨(i, v), key _ hv, rfl⟩)
theorem lvs_1 {lv : List (Nat × gV)} {i : Nat} {v : gV} (hv : gw v = 1) : (i, gv v) :: (lv.map gq).filter (fun q => !(q.1 == i) && !(q.1 + 1 == i && q.2.category == 2)) = (lvs lv i v).map gq := by
  simp only [lvs, List.map_cons, List.filter_map]
  congr 2
  refine List.filter_congr fun q _ => ?_
  simp [Function.comp, gv_cat, hv]
theorem lvs_2 {lv : List (Nat × gV)} {i : Nat} {v : gV} (hv : gw v = 2) : (i, gv v) :: (lv.map gq).filter (fun q => !(q.1 == i) && (!(q.1 == i + 1) && !(q.1 + 1 == i && q.2.category == 2))) = (lvs lv i v).map gq := by
  simp only [lvs, List.map_cons, List.filter_map]
  congr 2
  refine List.filter_congr fun q _ => ?_
  simp [Function.comp, gv_cat, hv]
/-- the same locals or fewer: every one of l' stands in l -/
def lvsub (l l' : List (Nat × gV)) : Prop := ∀ q ∈ l', q ∈ l
theorem lvsub_of (l l' : List (Nat × gV)) (ks : List Nat) (h : ks.filterMap (fun i => l[i]?) = l') : lvsub l l' := by
  intro q hq
  rw [← h] at hq
  obtain ⟨i, -, hi⟩ := List.mem_filterMap.mp hq
  exact List.mem_of_getElem? hi
theorem lv_has_sub {ls : Array Slot} {nL : Nat} {l l' : List (Nat × gV)} (h : lv_has ls nL (l.map gq)) (hs : lvsub l l') : lv_has ls nL (l'.map gq) :=
  ⟨h.1, h.2.1, fun q hq => by
    obtain ⟨z, hz, e⟩ := List.mem_map.mp hq
    exact h.2.2 q (List.mem_map.mpr ⟨z, hs z hz, e⟩)⟩
/-- THE JUDGEMENT: at pc, with these locals and this stack, over every heap that holds M -/
def gGo (p : Program) (l : Launch) (e : Env) (R : Room) (s : State) (m : MethodId) (args : Array Value) (below : List Frame) (meth : Method) (c : Code) (D : va_G) (cy : Nat → ClassId) (B : Nat) (H0 : Heap) (nL k n : Nat) (Q : State → Prop) (pc : Nat) (lv : List (Nat × gV)) (st : List gV) (M : gMem) : Prop :=
  ∀ (H : Heap) (locs : List Loc) (ls : Array Slot), gW D cy B H0 M H → va_S (gA B) s.heap H locs → lv_has ls nL (lv.map gq) → W p l e R s m args below meth c H locs k n Q (F0 m pc ls (st.map gv))
/-- where a method stands: the machine, its code, its words, its class, the tables, what holds of the statics -/
def gX (p : Program) (s : State) (m : MethodId) (args : Array Value) (meth : Method) (c : Code) (D : va_G) (cy : Nat → ClassId) (B : Nat) (Fs : State → Prop) (own : String) (cc : ByteArray) (ws : List Cond) (nL : Nat) : Prop :=
  p.tables.exec = Jvm.exec ∧ c.code = cc ∧ (∀ w ∈ ws, w.before args s = true) ∧ s.vm.findClass own = some m.cls ∧ c.maxLocals = nL ∧ va_K D vwCl (gTys cy) s ∧ B ≤ s.heap.size ∧ meth.locks = false ∧ ∀ U : State, s.WarmedH U.vm → Fs U
/-- a method's start and end -/
def gPre (D : va_G) (cy : Nat → ClassId) (B : Nat) (H0 : Heap) (Fs : State → Prop) (M : gMem) : State → Prop := fun U =>
  gW D cy B H0 M U.heap ∧ va_K D vwCl (gTys cy) U ∧ ∀ V : State, U.WarmedH V.vm → Fs V
def gQ (D : va_G) (cy : Nat → ClassId) (B : Nat) (H0 : Heap) (v : Option gV) (M : gMem) : Array Value → State → Outcome → State → Prop := fun _ st oc t =>
  oc = .returned (v.map gv) ∧ gW D cy B H0 M t.heap ∧ st.heap.size ≤ t.heap.size
/-- a class's numbers: its place in vwCl, name, fields, how many, their types -/
def gCD (ci : Nat) (C : String) (T : u_T) (N : Nat) (ty : Nat → FieldType) : Prop := vwCl[ci]? = some (C, T, N) ∧ (∀ k, k < N → parseFieldDescriptor (T k).2.2.1 = some (ty k)) ∧ (∀ a, a < N → ∀ b, b < N → a ≠ b → (T a).2.1 ≠ (T b).2.1) ∧ ci + 1 < 20 ∧ N = (gLay (ci + 1)).length
def imin (x y : Int32) : Int32 := if y < x then y else x
def imax (x y : Int32) : Int32 := if x < y then y else x
def ushr (x y : Int32) : Int32 := (x.toUInt32 >>> (y.toUInt32 &&& Int32.toUInt32 31)).toInt32
def i2bV (x : Int32) : Int32 := x.toInt8.toInt32
def i2cV (x : Int32) : Int32 := (x.toUInt32 % 65536).toInt32
abbrev inb (i : Int32) (n : Nat) : Prop := ¬ (i < 0 ∨ n ≤ i.toNatClampNeg)
def lw {α : Type} (M : gMem) (k : gMem → Option α) : Option α := k M
theorem lw_e {α : Type} {M : gMem} {k : gMem → Option α} {z : α} (h : lw M k = some z) : ∃ M', M' = M ∧ k M' = some z := ⟨M, rfl, h⟩
theorem ife_t {α : Type} {c : Prop} [Decidable c] {a b : Option α} {z : α} (hc : c) (h : (if c then a else b) = some z) : a = some z := by rw [if_pos hc] at h; exact h
theorem ife_f {α : Type} {c : Prop} [Decidable c] {a b : Option α} {z : α} (hc : ¬ c) (h : (if c then a else b) = some z) : b = some z := by rw [if_neg hc] at h; exact h
def ck {α : Type} (c : Prop) [Decidable c] (k : Option α) : Option α := if c then k else none
theorem ck_e {α : Type} {c : Prop} [Decidable c] {k : Option α} {z : α} (h : ck c k = some z) : c ∧ k = some z := by
  unfold ck at h; split at h
  · rename_i hc; exact ⟨hc, h⟩
  · cases h
theorem ck_t {α : Type} {c : Prop} [Decidable c] {k : Option α} (h : c) : ck c k = k := if_pos h
def dr {α : Type} (r : Option Nat) (k : Nat → Option α) : Option α := match r with
  | none => none
  | some a => k a
theorem dr_e {α : Type} {r : Option Nat} {k : Nat → Option α} {z : α} (h : dr r k = some z) : ∃ a, r = some a ∧ k a = some z := by
  cases r with
  | none => cases h
  | some a => exact ⟨a, rfl, h⟩
theorem dr_s {α : Type} {r : Option Nat} {a : Nat} {k : Nat → Option α} (h : r = some a) : dr r k = k a := by subst h; rfl
def bd {α β : Type} (o : Option (α × gMem)) (k : α → gMem → Option β) : Option β := match o with
  | none => none
  | some (x, M) => k x M
theorem bd_e {α β : Type} {o : Option (α × gMem)} {k : α → gMem → Option β} {z : β} (h : bd o k = some z) : ∃ x M, o = some (x, M) ∧ k x M = some z := by
  cases o with
  | none => cases h
  | some q => exact ⟨q.1, q.2, rfl, h⟩
theorem bd_s {α β : Type} {o : Option (α × gMem)} {k : α → gMem → Option β} {x : α} {M : gMem} (h : o = some (x, M)) : bd o k = k x M := by subst h; rfl
def oI {α β : Type} (o : Option β) : Option (α ⊕ β) := match o with
  | none => none
  | some b => some (.inr b)
theorem oI_e {α β : Type} {o : Option β} {z : α ⊕ β} (h : (oI o : Option (α ⊕ β)) = some z) : ∃ b, o = some b ∧ z = .inr b := by
  cases o with
  | none => cases h
  | some b => exact ⟨b, rfl, (Option.some.inj h).symm⟩
theorem oI_s {α β : Type} (b : β) : (oI (some b) : Option (α ⊕ β)) = some (.inr b) := rfl
/-- a loop's body till it leaves -/
def lpN {α β : Type} (f : α → Option (α ⊕ β)) : Nat → α → Option β
  | 0, _ => none
  | n + 1, a => match f a with
    | none => none
    | some (.inr b) => some b
    | some (.inl a') => lpN f n a'
theorem lpN_mono {α β : Type} {f : α → Option (α ⊕ β)} : ∀ (n k : Nat) (a : α) (b : β), lpN f n a = some b → lpN f (n + k) a = some b
  | 0, _, _, _, h => by cases h
  | n + 1, k, a, b, h => by
    rw [show n + 1 + k = n + k + 1 by omega]
    unfold lpN at h ⊢
    split at h
    · cases h
    · exact h
    · exact lpN_mono n k _ b h
noncomputable def lp {α β : Type} (f : α → Option (α ⊕ β)) (a : α) : Option β := @dite (Option β) (∃ n b, lpN f n a = some b) (Classical.propDecidable _) (fun h => some (Classical.choose (Classical.choose_spec h))) (fun _ => none)
theorem lp_iff {α β : Type} {f : α → Option (α ⊕ β)} {a : α} {b : β} : lp f a = some b ↔ ∃ n, lpN f n a = some b := by
  unfold lp
  constructor
  · intro h
    split at h
    · rename_i q
      cases h
      exact ⟨_, Classical.choose_spec (Classical.choose_spec q)⟩
    · cases h
  · intro ⟨n, h⟩
    have q : ∃ n b, lpN f n a = some b := ⟨n, b, h⟩
    rw [dif_pos q]
    have h2 := Classical.choose_spec (Classical.choose_spec q)
    have h3 := lpN_mono _ n _ _ h2
    have h4 := lpN_mono _ (Classical.choose q) _ _ h
    rw [Nat.add_comm] at h4
    exact h3.symm.trans h4
theorem lp_ind {α β : Type} {f : α → Option (α ⊕ β)} {P : α → β → Prop} (h : ∀ a b, (∃ z, f a = some z ∧ (match z with | .inr b' => b' = b | .inl a' => P a' b)) → P a b) : ∀ a b, lp f a = some b → P a b := by
  intro a b hl
  obtain ⟨n, hn⟩ := lp_iff.mp hl
  clear hl
  induction n generalizing a with
  | zero => cases hn
  | succ n ih =>
    unfold lpN at hn
    refine h a b ?_
    split at hn
    · cases hn
    · rename_i b' e
      exact ⟨_, e, Option.some.inj hn⟩
    · rename_i a' e
      exact ⟨_, e, ih a' hn⟩
theorem lp_out {α β : Type} {f : α → Option (α ⊕ β)} {a : α} {b : β} (h : f a = some (.inr b)) : lp f a = some b := lp_iff.mpr ⟨1, by simp [lpN, h]⟩
theorem lp_in {α β : Type} {f : α → Option (α ⊕ β)} {a a' : α} (h : f a = some (.inl a')) : lp f a = lp f a' := by
  cases hl : lp f a' with
  | some b =>
    obtain ⟨n, hn⟩ := lp_iff.mp hl
    exact lp_iff.mpr ⟨n + 1, by simp [lpN, h, hn]⟩
  | none =>
    cases hl2 : lp f a with
    | none => rfl
    | some b =>
      exfalso
      obtain ⟨n, hn⟩ := lp_iff.mp hl2
      cases n with
      | zero => cases hn
      | succ n =>
        simp only [lpN, h] at hn
        rw [lp_iff.mpr ⟨n, hn⟩] at hl
        cases hl
theorem cdX1 : gCD 0 RX1 TX1 11 tyX1 := ⟨rfl, tyX1_ok, nmX1, by decide, rfl⟩
theorem cdX2 : gCD 1 RX2 TX2 4 tyX2 := ⟨rfl, tyX2_ok, nmX2, by decide, rfl⟩
theorem cdX3 : gCD 2 RX3 TX3 4 tyX3 := ⟨rfl, tyX3_ok, nmX3, by decide, rfl⟩
theorem cdX4 : gCD 3 RX4 TX4 2 tyX4 := ⟨rfl, tyX4_ok, nmX4, by decide, rfl⟩
theorem cdX5 : gCD 4 RX5 TX5 8 tyX5 := ⟨rfl, tyX5_ok, nmX5, by decide, rfl⟩
theorem cdX6 : gCD 5 RX6 TX6 9 tyX6 := ⟨rfl, tyX6_ok, nmX6, by decide, rfl⟩
theorem cdX7 : gCD 6 RX7 TX7 17 tyX7 := ⟨rfl, tyX7_ok, nmX7, by decide, rfl⟩
theorem cdX9 : gCD 7 RX9 TX9 4 tyX9 := ⟨rfl, tyX9_ok, nmX9, by decide, rfl⟩
theorem cdX10 : gCD 8 RX10 TX10 6 tyX10 := ⟨rfl, tyX10_ok, nmX10, by decide, rfl⟩
theorem cdX11 : gCD 9 RX11 TX11 4 tyX11 := ⟨rfl, tyX11_ok, nmX11, by decide, rfl⟩
theorem cdX12 : gCD 10 RX12 TX12 20 tyX12 := ⟨rfl, tyX12_ok, nmX12, by decide, rfl⟩
theorem cdJ0 : gCD 11 RJ0 TJ0 4 tyJ0 := ⟨rfl, tyJ0_ok, nmJ0, by decide, rfl⟩
theorem cdJ4 : gCD 12 RJ4 TJ4 4 tyJ4 := ⟨rfl, tyJ4_ok, nmJ4, by decide, rfl⟩
