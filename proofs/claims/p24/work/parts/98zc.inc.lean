/-! ## Pure: what tides bring is what the stores have more; rows that no tide sees -/
theorem fleet_o {pg : Nat → Nat} {len np ng F G d k : Nat} {lf : Nat → Nat} {A : Nat → Nat → Int32} (W : WS A F G np ng) (D : WD A F G) (hd : 1 ≤ d ∧ d < 18) : ∀ n, (∀ i, i < n → lf i < F) → fleetA pg len np ng lf A n d k = A d k := sorry

theorem splits_o {A : Nat → Nat → Int32} {F G np ng d k : Nat} (W : WS A F G np ng) (D : WD A F G) (hd : 1 ≤ d ∧ d < 18) : ∀ n, n ≤ np → splitsA A n d k = A d k := sorry

theorem tide_o {pg : Nat → Nat} {len np ng F G d k : Nat} {A : Nat → Nat → Int32} (W : WS A F G np ng) (D : WD A F G) (hd : 1 ≤ d ∧ d < 18) : tideA pg len np ng F G A d k = A d k := sorry

theorem tides_o {pg : Nat → Nat} {len np ng F G d k : Nat} {A : Nat → Nat → Int32} (W : WS A F G np ng) (D : WD A F G) (hd : 1 ≤ d ∧ d < 18) : ∀ n, tidesA pg len np ng F G A n d k = A d k := sorry

theorem tide_st {pg : Nat → Nat} {len np ng F G f : Nat} {A : Nat → Nat → Int32} (W : WS A F G np ng) (D : WD A F G) (hf : f < F) : tideA pg len np ng F G A (34 + 2 * f) 4 = A (34 + 2 * f) 4 + tideP pg len np ng F G A (34 + 2 * f) 5 := sorry

theorem sumN_plus {f h : Nat → Int32} : ∀ n, sumN (fun i => f i + h i) n = sumN f n + sumN h n := sorry

theorem inc_st {pg : Nat → Nat} {len np ng F G : Nat} {A : Nat → Nat → Int32} (W : WS A F G np ng) (D : WD A F G) : ∀ n, sumN (fun i => tidesA pg len np ng F G A n (34 + 2 * i) 4) F = sumN (fun i => A (34 + 2 * i) 4) F + incA pg len np ng F G A n := sorry
