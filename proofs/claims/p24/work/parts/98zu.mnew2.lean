/-! ## Pure: the reference is made, whole -/
theorem moL_2 : ∀ j, j < 5 → (moL.getD j (0, 0)).1 = 401 ∧ (moL.getD j (0, 0)).2 = j + 4 := by decide
theorem moL_5 {j : Nat} (h : j < moL.length) : moL[j] = moL.getD j (0, 0) := by simp [List.getD, h]
def bgI (j : Nat) : Nat := [0, 0, 0, 1, 0, 2, 3, 0, 4, 5, 6, 7, 8].getD j 0
theorem bgI_1 : ∀ j, j < 13 → 2 ≤ j → j ≠ 7 → j ≠ 4 → bgI j < 9 ∧ bgR (bgI j) = j := by decide
theorem bd_un {x : Option (Unit × gMem)} {S : gMem} (h : bd x (fun _ M => some ((), M)) = some ((), S)) : x = some ((), S) := by
  match x, h with
  | some ((), M), h => exact h
