/-! ### the classes as the tables have them -/
theorem sK_X1 : ∀ w ∈ u_ws RX1 TX1 11, w ∈ lw_tbl := by decide +kernel
theorem sJ_X1 : Cond.instantiable RX1 11  ∈ lw_tbl := by decide +kernel
theorem sK_X2 : ∀ w ∈ u_ws RX2 TX2 4, w ∈ lw_tbl := by decide +kernel
theorem sJ_X2 : Cond.instantiable RX2 4  ∈ lw_tbl := by decide +kernel
theorem sK_X3 : ∀ w ∈ u_ws RX3 TX3 4, w ∈ lw_tbl := by decide +kernel
theorem sJ_X3 : Cond.instantiable RX3 4  ∈ lw_tbl := by decide +kernel
theorem sK_X4 : ∀ w ∈ u_ws RX4 TX4 2, w ∈ lw_tbl := by decide +kernel
theorem sJ_X4 : Cond.instantiable RX4 2  ∈ lw_tbl := by decide +kernel
theorem sK_X5 : ∀ w ∈ u_ws RX5 TX5 8, w ∈ lw_tbl := by decide +kernel
theorem sJ_X5 : Cond.instantiable RX5 8  ∈ lw_tbl := by decide +kernel
theorem sK_X6 : ∀ w ∈ u_ws RX6 TX6 9, w ∈ lw_tbl := by decide +kernel
theorem sJ_X6 : Cond.instantiable RX6 9  ∈ lw_tbl := by decide +kernel
theorem sK_X7 : ∀ w ∈ u_ws RX7 TX7 17, w ∈ lw_tbl := by decide +kernel
theorem sJ_X7 : Cond.instantiable RX7 17  ∈ lw_tbl := by decide +kernel
theorem sK_X9 : ∀ w ∈ u_ws RX9 TX9 4, w ∈ lw_tbl := by decide +kernel
theorem sJ_X9 : Cond.instantiable RX9 4  ∈ lw_tbl := by decide +kernel
theorem sK_X10 : ∀ w ∈ u_ws RX10 TX10 6, w ∈ lw_tbl := by decide +kernel
theorem sJ_X10 : Cond.instantiable RX10 6  ∈ lw_tbl := by decide +kernel
theorem sK_X11 : ∀ w ∈ u_ws RX11 TX11 4, w ∈ lw_tbl := by decide +kernel
theorem sJ_X11 : Cond.instantiable RX11 4  ∈ lw_tbl := by decide +kernel
theorem sK_X12 : ∀ w ∈ u_ws RX12 TX12 20, w ∈ lw_tbl := by decide +kernel
theorem sJ_X12 : Cond.instantiable RX12 20  ∈ lw_tbl := by decide +kernel
theorem sK_J0 : ∀ w ∈ u_ws RJ0 TJ0 4, w ∈ lw_tbl := by decide +kernel
theorem sJ_J0 : Cond.instantiable RJ0 4  ∈ lw_tbl := by decide +kernel
theorem sK_J4 : ∀ w ∈ u_ws RJ4 TJ4 4, w ∈ lw_tbl := by decide +kernel
theorem sJ_J4 : Cond.instantiable RJ4 4  ∈ lw_tbl := by decide +kernel
def sArr : List Cond := [.arrayClass .int, .arrayClass .long, .arrayClass .byte, .arrayOver (.object "TideLots$Ground"), .arrayOver (.object "TideLots$Fisher"), .arrayOver (.object "TideLots$Go"), .arrayOver (.object "TideLots$Pact"), .arrayOver (.object "TideLots$Sign"), .arrayOver (.array .int), .arrayClass .boolean]
theorem arr_p {s : State} {args : Array Value} {ty : FieldType} (h : (Cond.arrayClass ty).before args s = true) : ∃ cA, ArrOfT s cA ty ∧ s.vm.findClass ("[" ++ ty.toString) = some cA := by
  obtain ⟨c, k, comp, h1, h2, h3⟩ := Cond.arrayClass_spec h
  exact ⟨c, fun n z => ⟨(fun k h => by cases h), k, h2, comp, h3⟩, h1⟩
theorem arr_o {s : State} {args : Array Value} {C : String} (h : (Cond.arrayOver (.object C)).before args s = true) : ∃ cA, ArrOfT s cA (.object C) ∧ va_RA s cA (.object C) := by
  obtain ⟨comp, c, k, f1, f2, f3, f4, f5⟩ := Cond.arrayOver_spec h
  exact ⟨c, fun n z => ⟨(fun k h => by cases h), k, f3, comp, f4⟩, k, comp, f3, f4, f1, f5⟩
theorem arr_a {s : State} {args : Array Value} {t : FieldType} (h : (Cond.arrayOver (.array t)).before args s = true) : ∃ cA, ArrOfT s cA (.array t) ∧ va_RA s cA (.array t) := by
  obtain ⟨comp, c, k, f1, fi, f2, f3, f4⟩ := arrayOverA_spec h
  exact ⟨c, fun n z => ⟨(fun k h => by cases h), k, f2, comp, f3⟩, f4⟩
set_option maxRecDepth 20000 in
theorem start_K {s : State} {args : Array Value} (hts : ∀ w ∈ lw_tbl, w.before args s = true) (hA : ∀ w ∈ sArr, w.before args s = true) : ∃ (D : va_G) (cy : Nat → ClassId), va_K D vwCl (gTys cy) s := by
  obtain ⟨c0, i0, h0⟩ := u_known (n := 11) hts sK_X1 (hts _ sJ_X1)
  have h : ∀ k : Nat, ∃ z : ClassId × (Nat → Nat), ∀ q, vwCl[k]? = some q → u_Kn s q.1 q.2.1 q.2.2 z.1 z.2 := by
    intro k
    match k with
    | 0 => obtain ⟨c, i, h⟩ := u_known (n := 11) hts sK_X1 (hts _ sJ_X1); exact ⟨(c, i), fun q hq => by cases hq; exact h⟩
    | 1 => obtain ⟨c, i, h⟩ := u_known (n := 4) hts sK_X2 (hts _ sJ_X2); exact ⟨(c, i), fun q hq => by cases hq; exact h⟩
    | 2 => obtain ⟨c, i, h⟩ := u_known (n := 4) hts sK_X3 (hts _ sJ_X3); exact ⟨(c, i), fun q hq => by cases hq; exact h⟩
    | 3 => obtain ⟨c, i, h⟩ := u_known (n := 2) hts sK_X4 (hts _ sJ_X4); exact ⟨(c, i), fun q hq => by cases hq; exact h⟩
    | 4 => obtain ⟨c, i, h⟩ := u_known (n := 8) hts sK_X5 (hts _ sJ_X5); exact ⟨(c, i), fun q hq => by cases hq; exact h⟩
    | 5 => obtain ⟨c, i, h⟩ := u_known (n := 9) hts sK_X6 (hts _ sJ_X6); exact ⟨(c, i), fun q hq => by cases hq; exact h⟩
    | 6 => obtain ⟨c, i, h⟩ := u_known (n := 17) hts sK_X7 (hts _ sJ_X7); exact ⟨(c, i), fun q hq => by cases hq; exact h⟩
    | 7 => obtain ⟨c, i, h⟩ := u_known (n := 4) hts sK_X9 (hts _ sJ_X9); exact ⟨(c, i), fun q hq => by cases hq; exact h⟩
    | 8 => obtain ⟨c, i, h⟩ := u_known (n := 6) hts sK_X10 (hts _ sJ_X10); exact ⟨(c, i), fun q hq => by cases hq; exact h⟩
    | 9 => obtain ⟨c, i, h⟩ := u_known (n := 4) hts sK_X11 (hts _ sJ_X11); exact ⟨(c, i), fun q hq => by cases hq; exact h⟩
    | 10 => obtain ⟨c, i, h⟩ := u_known (n := 20) hts sK_X12 (hts _ sJ_X12); exact ⟨(c, i), fun q hq => by cases hq; exact h⟩
    | 11 => obtain ⟨c, i, h⟩ := u_known (n := 4) hts sK_J0 (hts _ sJ_J0); exact ⟨(c, i), fun q hq => by cases hq; exact h⟩
    | 12 => obtain ⟨c, i, h⟩ := u_known (n := 4) hts sK_J4 (hts _ sJ_J4); exact ⟨(c, i), fun q hq => by cases hq; exact h⟩
    | k + 13 => exact ⟨(c0, i0), fun q hq => by simp [vwCl] at hq⟩
  obtain ⟨z, hz⟩ := Classical.axiomOfChoice h
  obtain ⟨a0, b0, d0⟩ := arr_p (hA (.arrayClass .int) (by decide))
  obtain ⟨a1, b1, d1⟩ := arr_p (hA (.arrayClass .long) (by decide))
  obtain ⟨a2, b2, d2⟩ := arr_p (hA (.arrayClass .byte) (by decide))
  obtain ⟨a3, b3, d3⟩ := arr_o (hA (.arrayOver (.object "TideLots$Ground")) (by decide))
  obtain ⟨a4, b4, d4⟩ := arr_o (hA (.arrayOver (.object "TideLots$Fisher")) (by decide))
  obtain ⟨a5, b5, d5⟩ := arr_o (hA (.arrayOver (.object "TideLots$Go")) (by decide))
  obtain ⟨a6, b6, d6⟩ := arr_o (hA (.arrayOver (.object "TideLots$Pact")) (by decide))
  obtain ⟨a7, b7, d7⟩ := arr_o (hA (.arrayOver (.object "TideLots$Sign")) (by decide))
  obtain ⟨a8, b8, d8⟩ := arr_a (hA (.arrayOver (.array .int)) (by decide))
  obtain ⟨a9, b9, d9⟩ := arr_p (hA (.arrayClass .boolean) (by decide))
  refine ⟨(fun k => (z k).1, fun k => (z k).2), fun k => if k = 20 then a0 else if k = 21 then a1 else if k = 22 then a2 else if k = 23 then a3 else if k = 24 then a4 else if k = 25 then a5 else if k = 26 then a6 else if k = 27 then a7 else if k = 28 then a8 else a9, fun c q hq => hz c q hq, fun k q hq => ?_⟩
  match k, hq with
  | 0, hq => cases hq; exact ⟨b0, d0⟩
  | 1, hq => cases hq; exact ⟨b1, d1⟩
  | 2, hq => cases hq; exact ⟨b2, d2⟩
  | 3, hq => cases hq; exact ⟨b3, d3⟩
  | 4, hq => cases hq; exact ⟨b4, d4⟩
  | 5, hq => cases hq; exact ⟨b5, d5⟩
  | 6, hq => cases hq; exact ⟨b6, d6⟩
  | 7, hq => cases hq; exact ⟨b7, d7⟩
  | 8, hq => cases hq; exact ⟨b8, d8⟩
  | 9, hq => cases hq; exact ⟨b9, d9⟩
  | k + 10, hq => simp [gTys] at hq
