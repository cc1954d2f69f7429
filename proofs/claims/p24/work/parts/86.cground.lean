/-! ## Pure: the class's line of a ground, of a fisher -/
theorem C_fish {Z g ps vs : Nat → Nat} {K r p o : Nat} {M0 : gMem} (W : CWd Z g ps vs K r p o M0) {k s : Nat} {M : gMem} (C : CI r o M0 M) (h6 : mI M r 6 = nI k) (hk : k ≤ K) (hs : 1 ≤ s) (hs2 : s ≤ 400) : f_X6_takeFish Z M r (nI s) (some (o + (18 + 2 * lsn M o 2))) = if g k = 41 then some ((1 : Int32), at' r (k + 1) (stp1 Z r p o (1000 + s) k M)) else some ((0 : Int32), M) := sorry

theorem C_szL {Z g ps vs : Nat → Nat} {K r p o : Nat} {M0 : gMem} (W : CWd Z g ps vs K r p o M0) {i : Nat} : ∀ m s k M, CI r o M0 M → mI M r 6 = nI k → k ≤ K → 2 ≤ s → s ≤ k → lsn M o 2 = i → CRl Z r p o M0 M (szL g m s k) (lp_X6_groundLine_84 Z M r (some (o + (18 + 2 * i))) (nI s)) := sorry

theorem C_lnG {Z g ps vs : Nat → Nat} {K r p o : Nat} {M0 : gMem} (W : CWd Z g ps vs K r p o M0) {k : Nat} {M : gMem} (C : CI r o M0 M) (h6 : mI M r 6 = nI k) (hk : k ≤ K) : CRl Z r p o M0 M (lnG g k) (f_X6_groundLine Z M r) := sorry
