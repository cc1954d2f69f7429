/-! ## Pure: cheat -/
theorem sumN_ext {f : Nat → Int32} {n : Nat} : ∀ k, n ≤ k → (∀ i, n ≤ i → i < k → f i = 0) → sumN f k = sumN f n := sorry

theorem RS_chs {A st : Nat → Nat → Int32} {F G np : Nat} (hF : F ≤ 8) (R : RS A st F G np) : sumN (st 9) (lenS 9) = sumN (fun i => if A (34 + 2 * i) 9 = nI 0 then (0 : Int32) else 1) F := sorry
