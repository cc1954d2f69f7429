/-! ## Pure: both are taught -/
def HideP (p : Prop) : Prop := p
/-- the same cells below a bound, but for m's own row -/
theorem LS_e2 {m t a : Nat} {M X : gMem} (L : LSt m t a M) (B : Nat) (h : ∀ b, m ≤ b → b < B → mT X b = mT M b ∧ mL X b = mL M b ∧ (b ≠ m → mR X b = mR M b)) (h11 : mR X m 11 = mR M m 11) (hm : m < a) (ha : a + 17 ≤ B) (ht : t + 17 ≤ B) (hmt : m < t) : LSt m t a X := sorry

theorem LC_e {o : Nat} {M X : gMem} (L : LC o M) (h : ∀ d, d < 86 → mT X (o + d) = mT M (o + d) ∧ mL X (o + d) = mL M (o + d) ∧ (d ≠ 6 → mR X (o + d) = mR M (o + d))) : LC o X := sorry

theorem FRS_e {o : Nat} {M X : gMem} (F : FRS o M) (h : ∀ d, 12 ≤ d → d < 18 → mI X (o + d) = mI M (o + d)) : FRS o X := sorry

theorem PSz_e {o : Nat} {M X : gMem} (P : PSz o M) (h : ∀ d, 74 ≤ d → d < 86 → mI X (o + d) = mI M (o + d)) : PSz o X := sorry

theorem MP_e {m n : Nat} {T : Nat → Nat} {M X : gMem} (P : MP m n T M (mI M) (mR M)) (h : ∀ j, j < 7 → mT X (m + j) = mT M (m + j) ∧ mL X (m + j) = mL M (m + j)) (hR : ∀ k, k < 9 → mR X m k = mR M m k) (h2 : mI X m 2 = nI n) (h1 : mI X (m + 1) = mI M (m + 1)) : MP m n T X (mI X) (mR X) := sorry

theorem MP_0 {m n : Nat} {T : Nat → Nat} {M X : gMem} (P : MP m n T M (mI M) (mR M)) (h : ∀ j, j < 7 → mT X (m + j) = mT M (m + j) ∧ mL X (m + j) = mL M (m + j)) (hR : ∀ k, k < 9 → mR X m k = mR M m k) (h2 : mI X m 2 = 0) : MP m 0 T X (mI X) (mR X) := sorry

theorem TP_0 {p n : Nat} {T : Nat → Nat} {M X : gMem} (P : TP p n T M (mI M) (mR M)) (h : ∀ j, j < 5 → mT X (p + j) = mT M (p + j) ∧ mL X (p + j) = mL M (p + j)) (hR : mR X p = mR M p) (h2 : mI X p 0 = 0) : TP p 0 T X (mI X) (mR X) := sorry
