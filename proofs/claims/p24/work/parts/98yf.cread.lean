/-! ## Pure: the class reads: its scan, a new reader -/
def l4 (x n : Nat) (M : gMem) : gMem := wR (nW M 21 n) x 0 (some (mN M))
def ls (r k n : Nat) (M : gMem) : gMem := wR (l4 (mN M) n (nW M 4 0)) r k (some (mN M))
def rdM (r : Nat) (x1 x2 : Option Nat) (M : gMem) : gMem := wR (wR (ls r 5 6 (ls r 4 8 (ls r 3 8 (wI M r 0 (-1))))) r 1 x1) r 2 x2
theorem X4_i {x n : Nat} {v : Int32} {M : gMem} (h : mT M x = 4 ∧ x < mN M) (hv : (v = (8 : Int32) ∧ n = 8) ∨ (v = (6 : Int32) ∧ n = 6)) : f_X4_init M x v = some ((), l4 x n M) := sorry

theorem ls_f {r k n : Nat} {M : gMem} : mN (ls r k n M) = mN M + 2 ∧ (∀ a, mT (ls r k n M) a = if a = mN M + 1 then 21 else if a = mN M then 4 else mT M a) ∧ (∀ a, mL (ls r k n M) a = if a = mN M + 1 then n else if a = mN M then 0 else mL M a) ∧ (∀ a j, mI (ls r k n M) a j = if a = mN M + 1 then 0 else if a = mN M then 0 else mI M a j) ∧ (∀ a, a < mN M → mJ (ls r k n M) a = mJ M a) ∧ ∀ a j, mR (ls r k n M) a j = if a = r ∧ j = k then some (mN M) else if a = mN M ∧ j = 0 then some (mN M + 1) else if a = mN M + 1 then none else if a = mN M then none else mR M a j := sorry

theorem ls_s {r k n : Nat} {v : Int32} {M : gMem} {K : gMem → Option (Unit × gMem)} (h : mT M r = 6 ∧ r < mN M) (hv : (v = (8 : Int32) ∧ n = 8) ∨ (v = (6 : Int32) ∧ n = 6)) : (lw (nW M 4 0) fun M4 => bd (f_X4_init M4 (mN M) v) fun _ M5 => ck (mT M5 r = 6) <| lw (wR M5 r k (some (mN M))) K) = K (ls r k n M) := sorry

theorem ls_ok {r k n : Nat} {M : gMem} (h : mT M r = 6 ∧ r < mN M) : mT (ls r k n M) r = 6 ∧ r < mN (ls r k n M) := sorry

theorem X6_i {r : Nat} {x1 x2 : Option Nat} {M : gMem} (h : mT M r = 6 ∧ r < mN M) : f_X6_init M r x1 x2 = some ((), rdM r x1 x2 M) := sorry

/-- a new reader, fact by fact -/
theorem rd_f {r : Nat} {x1 x2 : Option Nat} {M : gMem} (hr : mN M = r + 1) : mN (rdM r x1 x2 M) = r + 7 ∧ (∀ a, a ≤ r → mT (rdM r x1 x2 M) a = mT M a ∧ mL (rdM r x1 x2 M) a = mL M a ∧ mJ (rdM r x1 x2 M) a = mJ M a ∧ (a < r → mI (rdM r x1 x2 M) a = mI M a ∧ mR (rdM r x1 x2 M) a = mR M a)) ∧ (∀ k, mI (rdM r x1 x2 M) r k = if k = 0 then -1 else mI M r k) ∧ (mR (rdM r x1 x2 M) r 1 = x1 ∧ mR (rdM r x1 x2 M) r 2 = x2 ∧ mR (rdM r x1 x2 M) r 3 = some (r + 1) ∧ mR (rdM r x1 x2 M) r 4 = some (r + 3) ∧ mR (rdM r x1 x2 M) r 5 = some (r + 5)) ∧ ∀ x, isX r x → mT (rdM r x1 x2 M) x = 4 ∧ mR (rdM r x1 x2 M) x 0 = some (x + 1) ∧ mT (rdM r x1 x2 M) (x + 1) = 21 ∧ mL (rdM r x1 x2 M) (x + 1) = cap r x ∧ mI (rdM r x1 x2 M) x 1 = 0 := sorry

/-- the class's world, ready to read -/
theorem C_world {Z : Nat → Nat} {p o n : Nat} {T : Nat → Nat} {M : gMem} (P : TP p n T M (mI M) (mR M)) (L : LC o M) (FR : FRS o M) (PS : ∀ q, q < 6 → ∃ c, c ≤ 8 ∧ mI M (o + (74 + 2 * q)) 3 = nI c) (hp : p + 5 ≤ o) (ho : o + 86 ≤ mN M) (hZ : ∀ a b : Nat, a < 45 → b < 45 → Z a = Z b → a = b) : ∃ S K, f_X10_scan Z M p = some ((), S) ∧ K ≤ 400 ∧ (∀ i, i < K → tok T n i < 42) ∧ 42 ≤ tok T n K ∧ mN S = mN M ∧ (mT S = mT M ∧ mL S = mL M) ∧ (∀ a k, a ≠ p + 3 → (a ≠ p ∨ k ≠ 5) → mI S a k = mI M a k) ∧ (∀ a, a ≠ p + 2 → mR S a = mR M a) ∧ (∀ a, a ≠ p + 4 → mJ S a = mJ M a) ∧ CWd Z (tok T n) (pos T n) (vsT T n) K (mN M) p o (rdM (mN M) (some p) (some o) (nW S 6 0)) ∧ CB (mN M) p o (rdM (mN M) (some p) (some o) (nW S 6 0)) ∧ CI (mN M) o (rdM (mN M) (some p) (some o) (nW S 6 0)) (fgM o (rdM (mN M) (some p) (some o) (nW S 6 0))) ∧ mI (rdM (mN M) (some p) (some o) (nW S 6 0)) (mN M) 6 = nI 0 ∧ mI (rdM (mN M) (some p) (some o) (nW S 6 0)) (mN M) 7 = 0 ∧ (∀ x, isX (mN M) x → mI (rdM (mN M) (some p) (some o) (nW S 6 0)) x 1 = 0) ∧ mI (rdM (mN M) (some p) (some o) (nW S 6 0)) (mN M) 0 = -1 := sorry
