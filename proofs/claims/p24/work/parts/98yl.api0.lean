/-! ## Pure: what the methods begin and end with -/
theorem nn_ex {x : Int32} (h : ¬ x < 0) : ∃ a, x = nI a ∧ a < 2 ^ 31 := sorry

/-- a number below a bound, told in two ways -/
theorem in_bnd {x : Int32} {n : Nat} (hn : n ≤ 2000) : (x < 0 ∨ nI n - (1 : Int32) < x) ↔ ¬ ∃ a, a < n ∧ x = nI a := sorry

theorem in_bnd2 {x : Int32} {n : Nat} (hn : n ≤ 2000) : (¬ x < 0 ∧ x < nI n) ↔ ∃ a, a < n ∧ x = nI a := sorry

/-- both objects in one memory, and the law's row of one long behind them -/
def STvR (Z : Nat → Nat) (b m o o' t n kb : Nat) (T : Nat → Nat) (M : gMem) : Prop :=
  b + 178 ≤ m ∧ CIv b o o' n T M ∧ MIv m t n T M ∧ RELv Z kb o m t M ∧ mI M b 3 = mI M m 3
def STv (Z : Nat → Nat) (b m o o' t n kb : Nat) (T : Nat → Nat) (M : gMem) : Prop :=
  (b + 178 ≤ m ∧ m + 60 ≤ mN M ∧ mT M (m + 59) = 21 ∧ mL M (m + 59) = 1) ∧ CIv b o o' n T M ∧ MIv m t n T M ∧ RELv Z kb o m t M ∧ mI M b 3 = mI M m 3
theorem TP_n {p n n' : Nat} {T T' : Nat → Nat} {M X : gMem} (P : TP p n T M (mI M) (mR M)) (h : ∀ j, j < 5 → mT X (p + j) = mT M (p + j) ∧ mL X (p + j) = mL M (p + j)) (hR : mR X p = mR M p) (h2 : mI X p 0 = nI n') (h3 : n' ≤ 2000) (h4 : ∀ q, q < n' → mI X (p + 1) q = sB (T' q) ∧ T' q < 256) : TP p n' T' X (mI X) (mR X) := sorry

theorem MP_n {m n n' : Nat} {T T' : Nat → Nat} {M X : gMem} (P : MP m n T M (mI M) (mR M)) (h : ∀ j, j < 7 → mT X (m + j) = mT M (m + j) ∧ mL X (m + j) = mL M (m + j)) (hR : ∀ k, k < 9 → mR X m k = mR M m k) (h2 : mI X m 2 = nI n') (h3 : n' ≤ 2000) (h4 : ∀ q, q < n' → mI X (m + 1) q = nI (T' q) ∧ T' q < 256) : MP m n' T' X (mI X) (mR X) := sorry

/-- the frame, with new texts on both tapes -/
theorem STvR_n {Z : Nat → Nat} {b m o o' t n n' kb : Nat} {T T' : Nat → Nat} {M X : gMem} (S : STvR Z b m o o' t n kb T M) (hT : ∀ a, a < mN M → mT X a = mT M a ∧ mL X a = mL M a ∧ mR X a = mR M a) (hI : ∀ a, a < mN M → a ≠ m → a ≠ b + 1 → a ≠ b + 2 → a ≠ m + 1 → mI X a = mI M a) (hm : mI X m 3 = mI M m 3) (hp : mI X (b + 1) 0 = nI n' ∧ mI X m 2 = nI n' ∧ n' ≤ 2000) (hb : ∀ q, q < n' → mI X (b + 2) q = sB (T' q) ∧ mI X (m + 1) q = nI (T' q) ∧ T' q < 256) (hN : mN M ≤ mN X) : STvR Z b m o o' t n' kb T' X := sorry

theorem STv_n {Z : Nat → Nat} {b m o o' t n n' kb : Nat} {T T' : Nat → Nat} {M X : gMem} (S : STv Z b m o o' t n kb T M) (hT : ∀ a, a < mN M → mT X a = mT M a ∧ mL X a = mL M a ∧ mR X a = mR M a) (hI : ∀ a, a < mN M → a ≠ m → a ≠ b + 1 → a ≠ b + 2 → a ≠ m + 1 → mI X a = mI M a) (hm : mI X m 3 = mI M m 3) (hp : mI X (b + 1) 0 = nI n' ∧ mI X m 2 = nI n' ∧ n' ≤ 2000) (hb : ∀ q, q < n' → mI X (b + 2) q = sB (T' q) ∧ mI X (m + 1) q = nI (T' q) ∧ T' q < 256) (hN : mN M ≤ mN X) : STv Z b m o o' t n' kb T' X := sorry

theorem STv_fr {Z : Nat → Nat} {b m o o' t n kb : Nat} {T : Nat → Nat} {M X : gMem} (S : STv Z b m o o' t n kb T M) (hT : ∀ a, a < mN M → mT X a = mT M a ∧ mL X a = mL M a ∧ mR X a = mR M a ∧ (a ≠ m → mI X a = mI M a)) (hm : ∀ k, k ≠ 0 → mI X m k = mI M m k) (hN : mN M ≤ mN X) : STv Z b m o o' t n kb T X := sorry

theorem STv_0 {Z : Nat → Nat} {b m o o' t n kb : Nat} {T : Nat → Nat} {M : gMem} {x : Int32} (S : STv Z b m o o' t n kb T M) : STv Z b m o o' t n kb T (wI M m 0 x) := sorry

/-- the answers of both, an exception by its kind -/
def AGR (c1 c2 : Nat) (r : Nat ⊕ Int32) (v k : Int32) : Prop := (r = .inr v ∧ k = 0) ∨ (r = .inl c1 ∧ k = 1) ∨ (c2 < 9 ∧ r = .inl c2 ∧ k = 2)
