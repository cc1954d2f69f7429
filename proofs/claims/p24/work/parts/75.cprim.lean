/-! ## Pure: the class's reader at r: its tape p, the shore o that it builds; its small methods -/
theorem up2_2 {α : Type} (f : Nat → Nat → α) (a k : Nat) (v w : α) : up2 (up2 f a k v) a k w = up2 f a k w := sorry

theorem up2_cm {α : Type} {f : Nat → Nat → α} {a k b j : Nat} {v w : α} (h : a ≠ b ∨ k ≠ j) : up2 (up2 f a k v) b j w = up2 (up2 f b j w) a k v := sorry

theorem wI_2 (M : gMem) (a k : Nat) (v w : Int32) : wI (wI M a k v) a k w = wI M a k w := sorry

theorem wI_cm {M : gMem} {a k b j : Nat} {v w : Int32} (h : a ≠ b ∨ k ≠ j) : wI (wI M a k v) b j w = wI (wI M b j w) a k v := sorry

theorem wI_e (M : gMem) (a k : Nat) (v : Int32) : mI (wI M a k v) a k = v := sorry

theorem wI_o {M : gMem} {a k b j : Nat} {v : Int32} (h : b ≠ a ∨ j ≠ k) : mI (wI M a k v) b j = mI M b j := sorry

theorem wI_s {M : gMem} {a k : Nat} {v : Int32} (h : mI M a k = v) : wI M a k v = M := sorry

def cap (r x : Nat) : Nat := if x = r + 5 then 6 else 8
def isX (r x : Nat) : Prop := x = r + 1 ∨ x = r + 3 ∨ x = r + 5
def CB (r p o : Nat) (M : gMem) : Prop :=
  (mT M r = 6 ∧ mR M r 1 = some p ∧ mR M r 2 = some o ∧ mR M r 3 = some (r + 1) ∧ mR M r 4 = some (r + 3) ∧ mR M r 5 = some (r + 5)) ∧
  (mT M p = 9 ∧ mR M p 2 = some (p + 2) ∧ mR M p 3 = some (p + 3) ∧ mR M p 4 = some (p + 4) ∧ mT M (p + 2) = 27 ∧ mL M (p + 2) = 401 ∧ mT M (p + 3) = 20 ∧ mL M (p + 3) = 401 ∧ mT M (p + 4) = 21 ∧ mL M (p + 4) = 401) ∧
  (∀ x, isX r x → mT M x = 4 ∧ mR M x 0 = some (x + 1) ∧ mT M (x + 1) = 21 ∧ mL M (x + 1) = cap r x) ∧ LC o M ∧ p + 5 ≤ o ∧ o + 86 ≤ r
def CT (Z g ps vs : Nat → Nat) (K p : Nat) (M : gMem) : Prop := ∀ i, i ≤ K → mR M (p + 2) i = some (Z (g i)) ∧ mI M (p + 3) i = nI (ps i) ∧ (g i = 40 ∨ g i = 41 → mJ M (p + 4) i = lN (vs i))
/-- what a new ground, fisher and pact are -/
def FRS (o : Nat) (M : gMem) : Prop := (∀ k, k < 3 → mI M (o + 12) k = 0) ∧ (∀ k, 1 ≤ k → k < 6 → mI M (o + 13) k = 0) ∧ (∀ k, k < 10 → mI M (o + 14) k = if k = 6 then -1 else 0) ∧ (∀ k, k < 8 → mI M (o + 15) k = 0) ∧ (∀ k, k < 8 → mI M (o + 16) k = if k = 0 then -1 else 0) ∧ ∀ k, k < 8 → mI M (o + 17) k = 0
/-- where the reader writes ints -/
def rg (r o a : Nat) : Prop := (o ≤ a ∧ a < o + 12) ∨ (o + 18 ≤ a ∧ a < o + 86) ∨ (r ≤ a ∧ a < r + 7)
/-- the world that the reader begins in -/
def CWd (Z g ps vs : Nat → Nat) (K r p o : Nat) (M : gMem) : Prop :=
  CB r p o M ∧ FRS o M ∧ CT Z g ps vs K p M ∧ (∀ a b : Nat, a < 45 → b < 45 → Z a = Z b → a = b) ∧ (∀ i, g i < 45) ∧ K ≤ 400 ∧ ∀ i, i ≤ K → g i < 42 → i + 1 ≤ K
/-- the counts keep to their limits -/
def SF (r o : Nat) (M : gMem) : Prop :=
  (∀ x, isX r x → ∃ a, a ≤ cap r x ∧ mI M x 1 = nI a) ∧ (∃ a, a ≤ 8 ∧ mI M o 2 = nI a) ∧ (∃ a, a ≤ 8 ∧ mI M o 3 = nI a) ∧ (∃ a, a ≤ 24 ∧ mI M o 4 = nI a) ∧ (∃ a, a ≤ 6 ∧ mI M o 5 = nI a) ∧ (∃ a, a ≤ 400 ∧ mI M (o + 5) 0 = nI a) ∧ ∀ q, q < 6 → ∃ c, c ≤ 8 ∧ mI M (o + (74 + 2 * q)) 3 = nI c
def CI (r o : Nat) (M0 M : gMem) : Prop :=
  (mT M = mT M0 ∧ mL M = mL M0 ∧ mN M = mN M0) ∧ (∀ a, a ≠ o + 6 → mR M a = mR M0 a) ∧ (∀ a, ¬ rg r o a → mI M a = mI M0 a) ∧ (∀ a, (a < r ∨ r + 7 ≤ a) → mJ M a = mJ M0 a) ∧ SF r o M
theorem LC_c {o : Nat} {M0 M : gMem} (h1 : mT M = mT M0) (h2 : mL M = mL M0) (h3 : ∀ a, a ≠ o + 6 → mR M a = mR M0 a) (L : LC o M0) : LC o M := sorry

theorem CI_B {r p o : Nat} {M0 M : gMem} (B : CB r p o M0) (C : CI r o M0 M) : CB r p o M := sorry

theorem CI_T {Z g ps vs : Nat → Nat} {K r p o : Nat} {M0 M : gMem} (B : CB r p o M0) (T : CT Z g ps vs K p M0) (C : CI r o M0 M) : CT Z g ps vs K p M := sorry

/-- what a write may not touch -/
def hot (r o a k : Nat) : Prop := (isX r a ∧ k = 1) ∨ (a = o ∧ 2 ≤ k ∧ k ≤ 5) ∨ (a = o + 5 ∧ k = 0) ∨ (o + 74 ≤ a ∧ a < o + 86 ∧ k = 3)
theorem SF_w {r o a k : Nat} {v : Int32} {M : gMem} (S : SF r o M) (h1 : isX r a → k = 1 → ∃ n, n ≤ cap r a ∧ v = nI n) (h2 : a = o → k = 2 → ∃ n, n ≤ 8 ∧ v = nI n) (h3 : a = o → k = 3 → ∃ n, n ≤ 8 ∧ v = nI n) (h4 : a = o → k = 4 → ∃ n, n ≤ 24 ∧ v = nI n) (h5 : a = o → k = 5 → ∃ n, n ≤ 6 ∧ v = nI n) (h6 : a = o + 5 → k = 0 → ∃ n, n ≤ 400 ∧ v = nI n) (h7 : o + 74 ≤ a → a < o + 86 → k = 3 → ∃ n, n ≤ 8 ∧ v = nI n) : SF r o (wI M a k v) := sorry

theorem CI_w {r o a k : Nat} {v : Int32} {M0 M : gMem} (C : CI r o M0 M) (hr : rg r o a) (S : SF r o (wI M a k v)) : CI r o M0 (wI M a k v) := sorry

theorem CI_wI {r o a k : Nat} {v : Int32} {M0 M : gMem} (C : CI r o M0 M) (hr : rg r o a) (hh : ¬ hot r o a k) : CI r o M0 (wI M a k v) := sorry

theorem CI_wR {r o k : Nat} {v : Option Nat} {M0 M : gMem} (C : CI r o M0 M) : CI r o M0 (wR M (o + 6) k v) := sorry

theorem CI_wJ {r o a k : Nat} {v : Int64} {M0 M : gMem} (C : CI r o M0 M) (hr : r ≤ a ∧ a < r + 7) : CI r o M0 (wJ M a k v) := sorry

/-! the small methods -/
def at' (r k : Nat) (M : gMem) : gMem := wI M r 6 (nI k)
def ntM (r p : Nat) (e : Int32) (k : Nat) (M : gMem) : gMem := if mI M r 7 = 0 then wI (wI M r 7 e) r 0 (mI M (p + 3) k) else M
theorem c_sign {Z g ps vs : Nat → Nat} {K r p o k : Nat} {M : gMem} (B : CB r p o M) (T : CT Z g ps vs K p M) (hK : K ≤ 400) (h6 : mI M r 6 = nI k) (hk : k ≤ K) : f_X6_sign M r = some (some (Z (g k)), M) := sorry

theorem c_note {r p o k : Nat} {M : gMem} {e : Int32} (B : CB r p o M) (hK : k ≤ 400) (h6 : mI M r 6 = nI k) : f_X6_noteError M r e = some ((), ntM r p e k M) := sorry

theorem c_take {Z g ps vs : Nat → Nat} {K r p o k a : Nat} {M : gMem} (B : CB r p o M) (T : CT Z g ps vs K p M) (hZ : ∀ a b : Nat, a < 45 → b < 45 → Z a = Z b → a = b) (hg : ∀ i, g i < 45) (hK : K ≤ 400) (H : ∀ i, i ≤ K → g i < 42 → i + 1 ≤ K) (h6 : mI M r 6 = nI k) (hk : k ≤ K) (ha : a < 42) : f_X6_take M r (some (Z a)) = if g k = a then some ((1 : Int32), at' r (k + 1) M) else some ((0 : Int32), M) := sorry

/-- the place of a word among names; -1 -/
def fnd (M : gMem) (x : Nat) (w : Int64) : Int32 := match fndN (fun i => decide (mJ M (x + 1) i = w)) (mI M x 1).toNatClampNeg 0 with
  | some i => nI i
  | none => -1
theorem c_find {r p o x a : Nat} {M : gMem} {w : Int64} (B : CB r p o M) (hx : isX r x) (ha : a ≤ cap r x) (h1 : mI M x 1 = nI a) : f_X4_find M x w = some (fnd M x w, M) := sorry

theorem fnd_b {M : gMem} {x a : Nat} {w : Int64} (h1 : mI M x 1 = nI a) (ha : a ≤ 8) : fnd M x w = -1 ∨ ∃ i, i < a ∧ fnd M x w = nI i := sorry
