/-! ## Pure: a tide brings at most 792 -/
theorem CT_spl {A : Nat → Nat → Int32} {F s p n : Nat} {c : Nat → Nat} (hF : F ≤ 8) (h : CTa A F s c) (hs : s < 2 ^ 30) (n1 : 1 ≤ n) (n2 : n ≤ 8) (hp : p < 6) (hm : ∀ j, j < n → ∃ f, f < F ∧ A (75 + 2 * p) j = nI f) : ∃ c', CTa (splA A p n) F s c' := sorry

theorem CT_splits {A : Nat → Nat → Int32} {F G np ng s : Nat} {c : Nat → Nat} (W : WS A F G np ng) (D : WD A F G) (h : CTa A F s c) (hs : s < 2 ^ 30) : ∀ n, n ≤ np → ∃ c', CTa (splitsA A n) F s c' := sorry

/-- stores don't change before they are stored -/
theorem st_fleet {pg : Nat → Nat} {len np ng F G : Nat} {lf : Nat → Nat} {A : Nat → Nat → Int32} (W : WS A F G np ng) (D : WD A F G) {f : Nat} : ∀ n, (∀ i, i < n → lf i < F) → fleetA pg len np ng lf A n (34 + 2 * f) 4 = A (34 + 2 * f) 4 := sorry

theorem st_splits {A : Nat → Nat → Int32} {F G np ng f : Nat} (W : WS A F G np ng) (D : WD A F G) (hf : f < 8) : ∀ n, n ≤ np → splitsA A n (34 + 2 * f) 4 = A (34 + 2 * f) 4 := sorry

theorem stA_v {A : Nat → Nat → Int32} {f : Nat} : ∀ n, f < n → stA A n (34 + 2 * f) 4 = A (34 + 2 * f) 4 + A (34 + 2 * f) 5 := sorry

theorem SVa_tide {pg : Nat → Nat} {len np ng F G kb : Nat} {A : Nat → Nat → Int32} (W : WS A F G np ng) (D : WD A F G) (V : SVa kb A F G) : SVa (kb + 792) (tideA pg len np ng F G A) F G := sorry

theorem SVa_tides {pg : Nat → Nat} {len np ng F G kb : Nat} {A : Nat → Nat → Int32} (W : WS A F G np ng) (D : WD A F G) (V : SVa kb A F G) : ∀ n, SVa (kb + 792 * n) (tidesA pg len np ng F G A n) F G := sorry
