/-! ## Pure: how long the reference's code is -/
theorem pu_l {t L : Nat} {v : Int32} {M : gMem} (h : mI M t 22 = nI L) (hL : L < 2 ^ 30) : mI (puM t v M) t 22 = nI (L + 1) ∧ mI (puM t v M) t 24 = mI M t 24 := sorry

theorem ms_l {vs : Nat → Nat} {m t c i L n : Nat} {M : gMem} (ht : m + 7 ≤ t) (hc : c < 45) (h : mI M t 22 = nI L) (hn : mI M t 24 = nI n) (hL : L < 2 ^ 29) (hn2 : n < 2 ^ 29) : mI (mst1 vs m t c i M) t 22 = nI (L + wd c) ∧ mI (mst1 vs m t c i M) t 24 = nI (n + if c = 2 ∨ c = 4 ∨ c = 16 ∨ c = 17 ∨ c = 18 ∨ c = 19 then 1 else 0) := sorry

theorem mr_l {vs : Nat → Nat} {m t : Nat} (ht : m + 7 ≤ t) : ∀ (es : List (Nat × Nat)) (L n : Nat) (M : gMem), (∀ y ∈ es, y.1 < 45) → mI M t 22 = nI L → mI M t 24 = nI n → L + we es < 2 ^ 29 → n + ne es < 2 ^ 29 → mI (mrn vs m t es M) t 22 = nI (L + we es) ∧ mI (mrn vs m t es M) t 24 = nI (n + ne es) := sorry
