/-! ## Pure: both readings of a text that was cut: the same error, or the same is told -/
theorem FRX_1 {m t : Nat} {N X Y : gMem} (ht : m + 7 ≤ t) (C : MI m t N X) (D : M2I m t X Y) : FRX m N Y := sorry

theorem ceL_m : ∀ {a : List (Nat × Nat)} (y : Nat × Nat), y ∈ ceL a → y.1 < 45 := sorry
