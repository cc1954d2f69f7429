/-! ## Pure: pacts -/
def hasN (f : Nat → Int32) (n : Nat) (x : Int32) : Prop := ∃ i : Nat, i < n ∧ f i = x
theorem lp_first {α β : Type} {f : α → Option (α ⊕ β)} (s : Nat → α) {b : β} (q : Nat → Prop) : ∀ (n i : Nat), i ≤ n → (∀ j, i ≤ j → j < n → ¬ q j → f (s j) = some (.inl (s (j + 1)))) → (∀ j, i ≤ j → j < n → q j → f (s j) = some (.inr b)) → (∃ j, i ≤ j ∧ j < n ∧ q j) → lp f (s i) = some b := sorry

theorem s5_has {M : gMem} {o i n : Nat} {x : Int32} {sg : Nat → Nat → Int32} (L : LC o M) (hi : i < 6) (h : sg (74 + 2 * i) 3 = nI n) (hn : n ≤ 8) : f_X5_has (sC o sg M) (o + (74 + 2 * i)) x = some (cif (hasN (sg (75 + 2 * i)) n x) 1 0, sC o sg M) := sorry
