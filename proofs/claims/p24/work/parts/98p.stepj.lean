/-! ## Pure: one event more: names that are known -/
theorem bd_id {y : Option (Int32 × gMem)} : (bd y fun r M => some (r, M)) = y := sorry

theorem pig : ∀ (F n : Nat) (f : Nat → Nat), (∀ k, k < n → f k < F) → (∀ j k, j < k → k < n → f j ≠ f k) → n ≤ F := sorry
