/-! ## Pure: both readings of a text that was cut -/
theorem ms_fr {vs : Nat → Nat} {m t c i a k : Nat} {P : gMem} (ht : m + 7 ≤ t) (h1 : a ≠ m + 5) (h2 : a < t + 11 ∨ t + 17 ≤ a) (h3 : a ≠ t ∨ (k ≠ 15 ∧ k ≠ 16 ∧ k ≠ 22 ∧ k ≠ 24)) : mI (mst1 vs m t c i P) a k = mI P a k := sorry

theorem mr_fr {vs : Nat → Nat} {m t a k : Nat} (ht : m + 7 ≤ t) (h1 : a ≠ m + 5) (h2 : a < t + 11 ∨ t + 17 ≤ a) (h3 : a ≠ t ∨ (k ≠ 15 ∧ k ≠ 16 ∧ k ≠ 22 ∧ k ≠ 24)) : ∀ (es : List (Nat × Nat)) (P : gMem), mI (mrn vs m t es P) a k = mI P a k := sorry

theorem RA_C {Z vs : Nat → Nat} {r o m t k nO : Nat} {L1 L2 L3 : List Nat} {E : List (Nat × Nat)} {q : Nat × Nat × Nat × Nat} {C C' D : gMem} (ho : o + 86 ≤ r) (R : RA Z vs r o m t L1 L2 L3 E nO k q C D) (h1 : ∀ a j, (a ≠ r ∨ j ≠ 6) → mI C' a j = mI C a j) (h2 : mJ C' = mJ C) (h3 : mR C' = mR C) : RA Z vs r o m t L1 L2 L3 E nO k q C' D := sorry

theorem RT_C {ef : Nat → Nat × Nat} {vs : Nat → Nat} {o t nO nP n x y h : Nat} {C C' P P' : gMem} (T : RT ef vs o t nO nP n x y h C P) (hO : nO ≤ 24) (hP : nP ≤ 6) (h1 : ∀ a j, o + 50 ≤ a → a < o + 86 → mI C' a j = mI C a j) (h2 : mI P' t 15 = mI P t 15 ∧ mI P' t 16 = mI P t 16 ∧ mI P' t 22 = mI P t 22 ∧ mI P' t 24 = mI P t 24) (h3 : ∀ a j, t + 11 ≤ a → a < t + 17 → mI P' a j = mI P a j) : RT ef vs o t nO nP n x y h C' P' := sorry

/-- rows of the text are the same -/
def FRX (m : Nat) (N X : gMem) : Prop := (mT X = mT N ∧ mL X = mL N ∧ mR X = mR N) ∧ ∀ a, (a = m + 1 ∨ a = m + 3 ∨ a = m + 4) → mI X a = mI N a
/-- where the reference writes as it reads -/
def NFr (m t : Nat) (N Y : gMem) : Prop := (mT Y = mT N ∧ mL Y = mL N ∧ mN Y = mN N ∧ mR Y = mR N ∧ mJ Y = mJ N) ∧ (∀ a, a ≠ m → a ≠ m + 5 → a ≠ m + 6 → (a < t ∨ t + 17 ≤ a) → mI Y a = mI N a) ∧ ∀ j, j ≠ 3 → j ≠ 9 → j ≠ 10 → mI Y m j = mI N m j
/-- a new shore: nobody has fished -/
def NEWA (A : Nat → Nat → Int32) (Y : gMem) (t F G np : Nat) : Prop :=
  (∀ g, g < G → A (18 + 2 * g) 1 = 0 ∧ A (18 + 2 * g) 2 = 0 ∧ ∀ k, k < 5 → A (19 + 2 * g) (k + 1) = mI Y (t + 2) (5 * g + k)) ∧ (∀ f, f < F → A (34 + 2 * f) 1 = A (34 + 2 * f) 0 ∧ (∀ k, 4 ≤ k → k < 10 → A (34 + 2 * f) k = if k = 6 then -1 else 0) ∧ ∀ k, k < 8 → A (35 + 2 * f) k = 0) ∧ (∀ p, p < np → ∀ k, 5 ≤ k → k < 8 → A (74 + 2 * p) k = 0) ∧ ∀ i, 5 * G ≤ i → mI Y (t + 2) i = 0

