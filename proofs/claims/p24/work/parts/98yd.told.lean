/-! ## Pure: a new Told -/
def al (x n k : Nat) (M : gMem) : gMem := wR (nW M 20 n) x k (some (mN M))
theorem al_ok {x n k : Nat} {M : gMem} (h : mT M x = 12 ∧ x < mN M) : mT (al x n k M) x = 12 ∧ x < mN (al x n k M) := sorry

theorem al_s {x n k : Nat} {M : gMem} {K : gMem → Option (Unit × gMem)} (h : mT M x = 12 ∧ x < mN M) : (lw (nW M 20 n) fun M1 => ck (mT M1 x = 12) <| lw (wR M1 x k (some (mN M))) K) = K (al x n k M) := sorry

/-- rows of these lengths at these fields -/
def alL (x : Nat) : List (Nat × Nat) → gMem → gMem
  | [], M => M
  | y :: r, M => alL x r (al x y.1 y.2 M)
def tdL : List (Nat × Nat) := [(8, 1), (40, 2), (8, 5), (8, 6), (8, 7), (24, 9), (24, 10), (6, 12), (6, 13), (48, 14), (25, 17), (25, 18), (7, 19), (7, 20), (800, 21), (400, 23)]
theorem alL_f {x : Nat} : ∀ (l : List (Nat × Nat)) (M : gMem), x < mN M → mN (alL x l M) = mN M + l.length ∧ (∀ a, a < mN M → mT (alL x l M) a = mT M a ∧ mL (alL x l M) a = mL M a ∧ mI (alL x l M) a = mI M a ∧ mJ (alL x l M) a = mJ M a ∧ (a ≠ x → mR (alL x l M) a = mR M a)) ∧ (∀ j (h : j < l.length), mT (alL x l M) (mN M + j) = 20 ∧ mL (alL x l M) (mN M + j) = (l[j]).1 ∧ ∀ k, mI (alL x l M) (mN M + j) k = 0) ∧ (∀ k, (∀ y ∈ l, y.2 ≠ k) → mR (alL x l M) x k = mR M x k) ∧ ((∀ i j (hi : i < l.length) (hj : j < l.length), (l[i]).2 = (l[j]).2 → i = j) → ∀ j (h : j < l.length), mR (alL x l M) x (l[j]).2 = some (mN M + j)) := sorry

theorem tdL_1 : tdL.length = 16 := sorry

theorem tdL_2 : ∀ j, j < 16 → (tdL.getD j (0, 0)).1 = lenD (j + 1) := sorry

theorem tdL_3 : ∀ k, k < 25 → 0 < tdR k → tdR k ≤ 16 ∧ (tdL.getD (tdR k - 1) (0, 0)).2 = k := sorry

theorem tdL_4 : ∀ i, i < 16 → ∀ j, j < 16 → (tdL.getD i (0, 0)).2 = (tdL.getD j (0, 0)).2 → i = j := sorry

theorem tdL_5 {j : Nat} (h : j < tdL.length) : tdL[j] = tdL.getD j (0, 0) := sorry
