/-! ## Pure: lot -/
theorem RS_nz {A A' st : Nat → Nat → Int32} {F G np : Nat} (h : ∀ d, (d < 8 ∨ 11 < d) → A' d = A d) (R : RS A st F G np) : RS A' st F G np := sorry

theorem nz_rows {A A' : Nat → Nat → Int32} (h : nz A' = nz A) : ∀ d, (d < 8 ∨ 11 < d) → A' d = A d := sorry
