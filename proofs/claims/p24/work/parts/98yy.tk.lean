/-! ## Pure: what was taken adds up, through a tide -/
def TKa (A : Nat → Nat → Int32) (F G : Nat) : Prop := (∀ g, g < G → A (18 + 2 * g) 2 = sumN (fun f => A (35 + 2 * f) g) F) ∧ ∀ f, f < F → A (34 + 2 * f) 8 = sumN (fun g => A (35 + 2 * f) g) G
theorem TK_eq {A A' : Nat → Nat → Int32} {F G : Nat} (hF : F ≤ 8) (hG : G ≤ 8) (h1 : ∀ g, g < 8 → A' (18 + 2 * g) 2 = A (18 + 2 * g) 2) (h2 : ∀ f, f < 8 → A' (34 + 2 * f) 8 = A (34 + 2 * f) 8) (h3 : ∀ f k, f < 8 → A' (35 + 2 * f) k = A (35 + 2 * f) k) (T : TKa A F G) : TKa A' F G := sorry

theorem sumN_up {f f' : Nat → Int32} {i : Nat} {v : Int32} (e : f' i = f i + v) (h : ∀ j, j ≠ i → f' j = f j) : ∀ n, i < n → sumN f' n = sumN f n + v := sorry

theorem TK_sail {A : Nat → Nat → Int32} {f g F G : Nat} (hF : F ≤ 8) (hG : G ≤ 8) (hf : f < F) (hg : g < G) (T : TKa A F G) : TKa (sailA A f g) F G := sorry

theorem TK_fleet {pg : Nat → Nat} {len np ng F G : Nat} {lf : Nat → Nat} {A : Nat → Nat → Int32} (W : WS A F G np ng) (D : WD A F G) (T : TKa A F G) : ∀ n, (∀ i, i < n → lf i < F) → TKa (fleetA pg len np ng lf A n) F G := sorry

theorem boat0_d {sg : Nat → Nat → Int32} {d k : Nat} (h : ∀ g, d ≠ 18 + 2 * g) : ∀ n, boat0 sg n d k = sg d k := sorry

theorem TK_splits {A : Nat → Nat → Int32} {F G np ng : Nat} (W : WS A F G np ng) (D : WD A F G) (T : TKa A F G) : ∀ n, n ≤ np → TKa (splitsA A n) F G := sorry

theorem TK_tide {pg : Nat → Nat} {len np ng F G : Nat} {A : Nat → Nat → Int32} (W : WS A F G np ng) (D : WD A F G) (T : TKa A F G) : TKa (tideA pg len np ng F G A) F G := sorry
