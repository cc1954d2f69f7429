/-! ## Pure: where the sums of goes and pacts stand: cells of the class, cells of the reference's first pass -/
/-- the cells that tell it -/
def tcl (o a k : Nat) : Prop := (o + 50 ≤ a ∧ a < o + 74 ∧ (k = 2 ∨ k = 3)) ∨ (o + 74 ≤ a ∧ a < o + 86 ∧ (a - o) % 2 = 0 ∧ k ≤ 2)
theorem nw_o {r p x i a k : Nat} {M : gMem} (h : a ≠ r ∧ a ≠ x) : mI (nwM r p x i M) a k = mI M a k := sorry

theorem cp_o2 {S : Nat → Nat → Bool} {a b c k : Nat} {M : gMem} (h : c ≠ a ∧ c ≠ a + 1) : mI (cpS S a b M) c k = mI M c k := sorry

theorem st_cl {Z : Nat → Nat} {r p o c i a k : Nat} {M : gMem} (ho : o + 86 ≤ r) (h : tcl o a k) (hc : c ≠ 53 ∧ c ≠ 61 ∧ c ≠ 63 ∧ c ≠ 64 ∧ c ≠ 65 ∧ c ≠ 66) (n2 : lsn M o 2 < 8) (n3 : lsn M o 3 < 8) (n4 : lsn M o 4 < 24) (n5 : lsn M o 5 < 6) : mI (stp1 Z r p o c i M) a k = mI M a k := sorry

/-- a row of signs has what it works on -/
def okH (g h : Nat) : Prop := isPO g ∨ g = 15 ∨ ((g = 20 ∨ g = 44) ∧ 1 ≤ h) ∨ (isBi g ∧ 2 ≤ h)
def vld (pg : Nat → Nat) (s k : Nat) : Prop := ∀ j, j < k → okH (pg (s + j)) (hgt pg s j)
theorem vld_s {pg : Nat → Nat} {s k : Nat} (h : vld pg s k) (h1 : okH (pg (s + k)) (hgt pg s k)) : vld pg s (k + 1) := sorry

theorem hC_s {c h h1 : Nat} (hc : c < 45) (e : hC c h = some h1) : okH c h ∧ hgS c h = h1 ∧ 1 ≤ h1 := sorry

theorem hC_o {c h h1 : Nat} (hc : 45 ≤ c) (e : hC c h = some h1) : ((c = 61 ∨ c = 63) → h = 0 ∧ h1 = 0) ∧ ((c = 64 ∨ c = 65) → h = 1 ∧ h1 = 0) ∧ (c = 66 → h = 0 ∧ h1 = 0) ∧ (c ≠ 64 → c ≠ 65 → h1 = h) := sorry

/-- the tests of the goes -/
def T1 (pg : Nat → Nat) (o t nO n x h : Nat) (C P : gMem) : Prop := ∀ i, i < nO → ∃ s, s ≤ n ∧ mI P (t + 11) i = nI (wds pg 0 s) ∧ ((i + 1 < nO ∨ 3 ≤ x) → mI C (o + (50 + i)) 2 = nI s) ∧ (i + 1 = nO → x = 1 ∨ x = 2 → s = n) ∧ ((i + 1 < nO ∨ x = 4) → ∃ e, s ≤ e ∧ e ≤ n ∧ mI P (t + 12) i = nI (wds pg 0 e) ∧ mI C (o + (50 + i)) 3 = nI e ∧ (e = s ∨ (hgt pg s (e - s) = 1 ∧ vld pg s (e - s)))) ∧ (i + 1 = nO → x = 3 → hgt pg s (n - s) = h ∧ vld pg s (n - s) ∧ (n = s ∨ 1 ≤ h))
/-- the sums of the pacts -/
def T2 (pg : Nat → Nat) (o t nP n y h : Nat) (C P : gMem) : Prop := ∀ p, p < nP → ∃ s, s ≤ n ∧ mI P (t + 13) p = nI (wds pg 0 s) ∧ (p + 1 = nP → y = 1 ∨ y = 2 → s = n) ∧ ∃ a b, a ≤ n ∧ b ≤ n ∧ mI C (o + (74 + 2 * p)) 1 = nI a ∧ mI C (o + (74 + 2 * p)) 2 = nI b ∧ (mI C (o + (74 + 2 * p)) 0 = -1 ∨ (a = s ∧ (p + 1 = nP → 3 ≤ y) ∧ (p + 1 = nP → y = 3 → hgt pg s (n - s) = h ∧ vld pg s (n - s)) ∧ ((p + 1 < nP ∨ y = 4) → s ≤ b ∧ mI P (t + 14) p = nI (wds pg 0 b) ∧ hgt pg s (b - s) = 1 ∧ vld pg s (b - s))))
theorem T1_fr {pg : Nat → Nat} {o t nO n x x' h h' : Nat} {C C' P P' : gMem} (T : T1 pg o t nO n x h C P) (hx : (3 ≤ x' → 3 ≤ x) ∧ (x' = 1 ∨ x' = 2 → x = 1 ∨ x = 2) ∧ (x' = 4 → x = 4) ∧ (x' = 3 → x = 3 ∧ h' = h)) (hC : ∀ i k, i < nO → (k = 2 ∨ k = 3) → mI C' (o + (50 + i)) k = mI C (o + (50 + i)) k) (hP : ∀ i, i < nO → mI P' (t + 11) i = mI P (t + 11) i ∧ mI P' (t + 12) i = mI P (t + 12) i) : T1 pg o t nO n x' h' C' P' := sorry

theorem T2_fr {pg : Nat → Nat} {o t nP n y y' h h' : Nat} {C C' P P' : gMem} (T : T2 pg o t nP n y h C P) (hy : (3 ≤ y → 3 ≤ y') ∧ (y' = 1 ∨ y' = 2 → y = 1 ∨ y = 2) ∧ (y' = 4 → y = 4 ∨ y < 3) ∧ (y' = 3 → y = 3 ∧ h' = h)) (hC : ∀ p k, p < nP → k ≤ 2 → mI C' (o + (74 + 2 * p)) k = mI C (o + (74 + 2 * p)) k) (hP : ∀ p, p < nP → mI P' (t + 13) p = mI P (t + 13) p ∧ mI P' (t + 14) p = mI P (t + 14) p) : T2 pg o t nP n y' h' C' P' := sorry

/-- a sign more -/
theorem T1_c {pg : Nat → Nat} {o t nO n x h h1 : Nat} {C C' P P' : gMem} (T : T1 pg o t nO n x h C P) (hx : x ≠ 1 ∧ x ≠ 2) (hc : pg n < 45) (hH : hC (pg n) h = some h1) (hC : ∀ i k, i < nO → (k = 2 ∨ k = 3) → mI C' (o + (50 + i)) k = mI C (o + (50 + i)) k) (hP : ∀ i, i < nO → mI P' (t + 11) i = mI P (t + 11) i ∧ mI P' (t + 12) i = mI P (t + 12) i) : T1 pg o t nO (n + 1) x h1 C' P' := sorry

theorem T2_c {pg : Nat → Nat} {o t nP n y h h1 : Nat} {C C' P P' : gMem} (T : T2 pg o t nP n y h C P) (hy : y ≠ 1) (hc : pg n < 45) (hH : hC (pg n) h = some h1) (hC : ∀ p k, p < nP → k ≤ 2 → mI C' (o + (74 + 2 * p)) k = mI C (o + (74 + 2 * p)) k) (hP : ∀ p, p < nP → mI P' (t + 13) p = mI P (t + 13) p ∧ mI P' (t + 14) p = mI P (t + 14) p) : T2 pg o t nP (n + 1) (if y = 2 then 4 else y) h1 C' P' := sorry
