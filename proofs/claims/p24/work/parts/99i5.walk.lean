/-! The walk from the law's entry -/
def R_law : String := "TideLotsLaw"
def lw_P (b : Addr) (xs : List Int32) (args : Array Value) (s : State) : Prop := args = #[.ref b] ∧ s.IntsAt b xs ∧ xs.length ≤ 260 ∧ (Jvm.Cond.and given_1 narrow_1).before args s = true
def lw_Q (_ : Array Value) (s : State) (o : Outcome) (t : State) : Prop := o = .returned (some (.int 1)) ∧ Framed s o t [] 600086 7301442
def lw_Z (below : List Frame) (a : Array Value) (s : State) : State → Prop := fun t => ∃ o, t.status = .running ∧ Ended t below o ∧ lw_Q a s o t
/-- what holds at the law's entry: the machine, the code, the tables' words (any of lw_tbl by 'hts w (by decide +kernel)'), the script of L ints xs at the cell b, what the Statement gives of the start (any of its parts by flat_of_before) -/
def lw_At (p : Program) (s : State) (m : MethodId) (meth : Method) (c : Code) (b L : Nat) (xs : Nat → Int32) : Prop :=
  p.tables.exec = Jvm.exec ∧ c.code = code ∧ meth.sig.returnType = ret ∧ c.maxLocals = 34 ∧ s.vm.findClass R_law = some m.cls ∧ (∀ w ∈ lw_tbl, w.before #[Value.ref b] s = true) ∧ va_X b L xs s s.heap ∧ b < s.heap.size ∧ meth.locks = false ∧ (Jvm.Cond.and given_1 narrow_1).before #[Value.ref b] s = true
/-- from the entry, for every script of at most 260 ints, the law comes to its end with true -/
theorem whole_start {p : Program} {e : Env} {s : State} {m : MethodId} {below : List Frame} {meth : Method} {c : Code} (l : Launch) (hflags : l.flags = flags0) {b L : Nat} {xs : Nat → Int32} (hL : L ≤ 260) (hne : ∀ x ∈ c.exceptionTable.toList, False) (C0 : lw_At p s m meth c b L xs) : W p l e room_1 s m #[Value.ref b] below meth c s.heap [] 0 0 (lw_Z below #[Value.ref b] s) (entryFrame m ([Value.ref b] : List Value).toArray 34) := by
  obtain ⟨hx, hb, hr, hml, hown, hts, hX, hbl, hlocks, hgv⟩ := C0
  have hlx : l.stackTraces = false := by
    unfold Launch.stackTraces
    rw [hflags]
    first | decide +kernel | rfl
  obtain ⟨D, cy, hK⟩ := start_K hts (fun w hw => hts w (qz_arr w hw))
  obtain ⟨Z, hZb, hZ, hZH, hS⟩ := qz_start hL hts hX hgv
  have hts2 := tb2_ok hts
  have X2 : gX p s m #[Value.ref b] meth c D cy s.heap.size (gSt2 Z s.heap.size s.heap) RL cL_law wsL_law 34 := ⟨hx, hb, fun w h => hts2 w (wsL_law_in w h), hown, hml, hK, Nat.le_refl _, hlocks, fun U hW => qz_warm hW hS⟩
  obtain ⟨M0, hM, h0⟩ : ∃ M0 : gMem, mN M0 = s.heap.size ∧ ∀ a, mT M0 a = 0 := ⟨(fun _ => 0, fun _ => 0, fun _ _ => 0, fun _ _ => none, fun _ _ => 0, s.heap.size), rfl, fun _ => rfl⟩
  have hW : gW D cy s.heap.size s.heap M0 s.heap := ⟨hM.symm, Nat.le_of_eq hM.symm, fun _ _ => rfl, fun a ha => absurd (h0 a) ha⟩
  obtain ⟨M1, hf⟩ := law_f hZH (Nat.le_of_eq hM.symm) hZ
  have hl := lv_entry ([.ref b]) (n := 34) (Nat.le_of_ble_eq_true rfl)
  rw [lg_entry_eq]
  generalize (lg_sl ([.ref b]) ++ List.replicate (34 - (lg_sl ([.ref b])).length) Slot.unset).toArray = ls at hl ⊢
  have hl : lv_has ls 34 (List.map gq [(0, vR (some (Z 400)))]) := by rw [hZb]; exact hl
  have key := t_L_law_0 (e := e) (Z := Z) (below := below) X2 hr hlx (fun _ _ => rfl) hne rfl M0 0 0 _ hf rfl s.heap [] ls hW va_S.rf hl
  intro T hT X
  obtain ⟨t, a1, o, b1, b2, b3⟩ := key T hT X
  refine ⟨t, a1, o, b1, b2, ?_⟩
  rcases b3 with ⟨⟨v, hv, hq⟩, LL, ⟨f1, f2, f3⟩, hfree⟩ | ⟨q, -, E, ce, LL, ⟨x, hx2, -⟩, -⟩
  · refine ⟨?_, f1, f2, f3.weaken (fun y hy hlt => absurd hlt (Nat.not_lt.mpr (hfree y hy))) (Nat.le_refl _) (Nat.le_refl _)⟩
    have hv2 : some (vI (1 : Int32)) = v := Sum.inr.inj hv
    rw [← hv2] at hq
    exact hq.1
  · have hx3 : (Sum.inr (some (vI (1 : Int32))) : Nat ⊕ Option gV) = Sum.inl x := hx2
    cases hx3
