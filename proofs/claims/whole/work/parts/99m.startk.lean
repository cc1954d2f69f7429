/-! ### the classes as the tables have them -/
theorem sK_1 : ∀ w ∈ u_ws RX1 TX1 11, w ∈ wsLL := by decide +kernel
theorem sJ_1 : Cond.instantiable RX1 11  ∈ wsLL := by decide +kernel
theorem sK_2 : ∀ w ∈ u_ws RX2 TX2 4, w ∈ wsLL := by decide +kernel
theorem sJ_2 : Cond.instantiable RX2 4  ∈ wsLL := by decide +kernel
theorem sK_3 : ∀ w ∈ u_ws RX3 TX3 4, w ∈ wsLL := by decide +kernel
theorem sJ_3 : Cond.instantiable RX3 4  ∈ wsLL := by decide +kernel
theorem sK_4 : ∀ w ∈ u_ws RX4 TX4 2, w ∈ wsLL := by decide +kernel
theorem sJ_4 : Cond.instantiable RX4 2  ∈ wsLL := by decide +kernel
theorem sK_5 : ∀ w ∈ u_ws RX5 TX5 8, w ∈ wsLL := by decide +kernel
theorem sJ_5 : Cond.instantiable RX5 8  ∈ wsLL := by decide +kernel
theorem sK_6 : ∀ w ∈ u_ws RX6 TX6 9, w ∈ wsLL := by decide +kernel
theorem sJ_6 : Cond.instantiable RX6 9  ∈ wsLL := by decide +kernel
theorem sK_7 : ∀ w ∈ u_ws RX7 TX7 17, w ∈ wsLL := by decide +kernel
theorem sJ_7 : Cond.instantiable RX7 17  ∈ wsLL := by decide +kernel
theorem sK_9 : ∀ w ∈ u_ws RX9 TX9 4, w ∈ wsLL := by decide +kernel
theorem sJ_9 : Cond.instantiable RX9 4  ∈ wsLL := by decide +kernel
theorem sK_10 : ∀ w ∈ u_ws RX10 TX10 6, w ∈ wsLL := by decide +kernel
theorem sJ_10 : Cond.instantiable RX10 6  ∈ wsLL := by decide +kernel
theorem sK_11 : ∀ w ∈ u_ws RX11 TX11 4, w ∈ wsLL := by decide +kernel
theorem sJ_11 : Cond.instantiable RX11 4  ∈ wsLL := by decide +kernel
theorem sK_12 : ∀ w ∈ u_ws RX12 TX12 19, w ∈ wsLL := by decide +kernel
theorem sJ_12 : Cond.instantiable RX12 19  ∈ wsLL := by decide +kernel
theorem sK_13 : ∀ w ∈ u_ws RX13 TX13 25, w ∈ wsLL := by decide +kernel
theorem sJ_13 : Cond.instantiable RX13 25  ∈ wsLL := by decide +kernel
theorem sK_14 : ∀ w ∈ u_ws RX14 TX14 15, w ∈ wsLL := by decide +kernel
theorem sJ_14 : Cond.instantiable RX14 15  ∈ wsLL := by decide +kernel
def sArr : List Cond := [.arrayClass .int, .arrayClass .long, .arrayClass .byte, .arrayOver (.object "TideLots$Ground"), .arrayOver (.object "TideLots$Fisher"), .arrayOver (.object "TideLots$Go"), .arrayOver (.object "TideLots$Pact"), .arrayOver (.object "TideLots$Sign"), .arrayOver (.array .int)]
theorem arr_p {s : State} {args : Array Value} {ty : FieldType} (h : (Cond.arrayClass ty).before args s = true) : ∃ cA, ArrOfT s cA ty ∧ s.vm.findClass ("[" ++ ty.toString) = some cA := by
  obtain ⟨c, k, comp, h1, h2, h3⟩ := Cond.arrayClass_spec h
  exact ⟨c, fun n z => ⟨(fun k h => by cases h), k, h2, comp, h3⟩, h1⟩
theorem arr_o {s : State} {args : Array Value} {C : String} (h : (Cond.arrayOver (.object C)).before args s = true) : ∃ cA, ArrOfT s cA (.object C) ∧ va_RA s cA (.object C) := by
  obtain ⟨comp, c, k, f1, f2, f3, f4, f5⟩ := Cond.arrayOver_spec h
  exact ⟨c, fun n z => ⟨(fun k h => by cases h), k, f3, comp, f4⟩, k, comp, f3, f4, f1, f5⟩
theorem arr_a {s : State} {args : Array Value} {t : FieldType} (h : (Cond.arrayOver (.array t)).before args s = true) : ∃ cA, ArrOfT s cA (.array t) ∧ va_RA s cA (.array t) := by
  obtain ⟨comp, c, k, f1, fi, f2, f3, f4⟩ := arrayOverA_spec h
  exact ⟨c, fun n z => ⟨(fun k h => by cases h), k, f2, comp, f3⟩, f4⟩
set_option maxRecDepth 20000 in
theorem start_K {s : State} {args : Array Value} (hts : ∀ w ∈ wsLL, w.before args s = true) (hA : ∀ w ∈ sArr, w.before args s = true) : ∃ (D : va_G) (cy : Nat → ClassId), va_K D vwCl (gTys cy) s := by
  obtain ⟨c0, i0, h0⟩ := u_known (n := 11) hts sK_1 (hts _ sJ_1)
  have h : ∀ k : Nat, ∃ z : ClassId × (Nat → Nat), ∀ q, vwCl[k]? = some q → u_Kn s q.1 q.2.1 q.2.2 z.1 z.2 := by
    intro k
    match k with
    | 0 => obtain ⟨c, i, h⟩ := u_known (n := 11) hts sK_1 (hts _ sJ_1); exact ⟨(c, i), fun q hq => by cases hq; exact h⟩
    | 1 => obtain ⟨c, i, h⟩ := u_known (n := 4) hts sK_2 (hts _ sJ_2); exact ⟨(c, i), fun q hq => by cases hq; exact h⟩
    | 2 => obtain ⟨c, i, h⟩ := u_known (n := 4) hts sK_3 (hts _ sJ_3); exact ⟨(c, i), fun q hq => by cases hq; exact h⟩
    | 3 => obtain ⟨c, i, h⟩ := u_known (n := 2) hts sK_4 (hts _ sJ_4); exact ⟨(c, i), fun q hq => by cases hq; exact h⟩
    | 4 => obtain ⟨c, i, h⟩ := u_known (n := 8) hts sK_5 (hts _ sJ_5); exact ⟨(c, i), fun q hq => by cases hq; exact h⟩
    | 5 => obtain ⟨c, i, h⟩ := u_known (n := 9) hts sK_6 (hts _ sJ_6); exact ⟨(c, i), fun q hq => by cases hq; exact h⟩
    | 6 => obtain ⟨c, i, h⟩ := u_known (n := 17) hts sK_7 (hts _ sJ_7); exact ⟨(c, i), fun q hq => by cases hq; exact h⟩
    | 7 => obtain ⟨c, i, h⟩ := u_known (n := 4) hts sK_9 (hts _ sJ_9); exact ⟨(c, i), fun q hq => by cases hq; exact h⟩
    | 8 => obtain ⟨c, i, h⟩ := u_known (n := 6) hts sK_10 (hts _ sJ_10); exact ⟨(c, i), fun q hq => by cases hq; exact h⟩
    | 9 => obtain ⟨c, i, h⟩ := u_known (n := 4) hts sK_11 (hts _ sJ_11); exact ⟨(c, i), fun q hq => by cases hq; exact h⟩
    | 10 => obtain ⟨c, i, h⟩ := u_known (n := 19) hts sK_12 (hts _ sJ_12); exact ⟨(c, i), fun q hq => by cases hq; exact h⟩
    | 11 => obtain ⟨c, i, h⟩ := u_known (n := 25) hts sK_13 (hts _ sJ_13); exact ⟨(c, i), fun q hq => by cases hq; exact h⟩
    | 12 => obtain ⟨c, i, h⟩ := u_known (n := 15) hts sK_14 (hts _ sJ_14); exact ⟨(c, i), fun q hq => by cases hq; exact h⟩
    | k + 13 => exact ⟨(c0, i0), fun q hq => by simp [vwCl] at hq⟩
  obtain ⟨z, hz⟩ := Classical.axiomOfChoice h
  obtain ⟨a0, b0, d0⟩ := arr_p (hA (.arrayClass .int) (by decide))
  obtain ⟨a1, b1, d1⟩ := arr_p (hA (.arrayClass .long) (by decide))
  obtain ⟨a2, b2, d2⟩ := arr_p (hA (.arrayClass .byte) (by decide))
  obtain ⟨a3, b3, d3⟩ := arr_o (hA (.arrayOver (.object "TideLots$Ground")) (by decide))
  obtain ⟨a4, b4, d4⟩ := arr_o (hA (.arrayOver (.object "TideLots$Fisher")) (by decide))
  obtain ⟨a5, b5, d5⟩ := arr_o (hA (.arrayOver (.object "TideLots$Go")) (by decide))
  obtain ⟨a6, b6, d6⟩ := arr_o (hA (.arrayOver (.object "TideLots$Pact")) (by decide))
  obtain ⟨a7, b7, d7⟩ := arr_o (hA (.arrayOver (.object "TideLots$Sign")) (by decide))
  obtain ⟨a8, b8, d8⟩ := arr_a (hA (.arrayOver (.array .int)) (by decide))
  refine ⟨(fun k => (z k).1, fun k => (z k).2), fun k => if k = 20 then a0 else if k = 21 then a1 else if k = 22 then a2 else if k = 23 then a3 else if k = 24 then a4 else if k = 25 then a5 else if k = 26 then a6 else if k = 27 then a7 else a8, fun c q hq => hz c q hq, fun k q hq => ?_⟩
  match k, hq with
  | 0, hq => cases hq; exact ⟨b0, d0⟩
  | 1, hq => cases hq; exact ⟨b1, d1⟩
  | 2, hq => cases hq; exact ⟨b2, d2⟩
  | 3, hq => cases hq; exact ⟨b3, d3⟩
  | 4, hq => cases hq; exact ⟨b4, d4⟩
  | 5, hq => cases hq; exact ⟨b5, d5⟩
  | 6, hq => cases hq; exact ⟨b6, d6⟩
  | 7, hq => cases hq; exact ⟨b7, d7⟩
  | 8, hq => cases hq; exact ⟨b8, d8⟩
  | k + 9, hq => simp [gTys] at hq
