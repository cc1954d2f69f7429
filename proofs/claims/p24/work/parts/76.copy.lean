/-! ## Pure: copies of a ground, a fisher, a go, a pact -/
def wL (a b : Nat) : List Nat → gMem → gMem
  | [], M => M
  | k :: t, M => wL a b t (wI M a k (mI M b k))
theorem wL_s {a b : Nat} (hab : a ≠ b) : ∀ (l : List Nat) (M : gMem), wL a b l M = sI M (fun c k => if c = a ∧ k ∈ l then mI M b k else mI M c k) := sorry

/-- the ints of a and a + 1 that S names are those of b and b + 1 -/
def cpS (S : Nat → Nat → Bool) (a b : Nat) (M : gMem) : gMem := sI M (fun c k => if (c = a ∨ c = a + 1) ∧ S (c - a) k = true then mI M (b + (c - a)) k else mI M c k)
/-- the places i to j - 1 of the row A are those of B -/
def cpR (A B i j : Nat) (M : gMem) : gMem := uI M A (fun k => if i ≤ k ∧ k < j then mI M B k else mI M A k)
theorem cpR_0 {A B i : Nat} {M : gMem} : cpR A B i i M = M := sorry

theorem cpR_s {A B i j : Nat} {M : gMem} (h : A ≠ B) (hj : i ≤ j) : wI (cpR A B i j M) A j (mI (cpR A B i j M) B j) = cpR A B i (j + 1) M := sorry

theorem cpS_wR {a b i j : Nat} {l : List Nat} {S : Nat → Nat → Bool} {M : gMem} (h : a + 2 ≤ b ∨ b + 2 ≤ a) (h0 : ∀ k, S 0 k = true ↔ k ∈ l) (h1 : ∀ k, S 1 k = true ↔ i ≤ k ∧ k < j) : cpR (a + 1) (b + 1) i j (wL a b l M) = cpS S a b M := sorry

def sG (d k : Nat) : Bool := if d = 0 then decide (k < 3) else decide (1 ≤ k ∧ k < 6)
def sF (d k : Nat) : Bool := if d = 0 then decide (k < 10) else decide (k < 8)
def sP (d k : Nat) : Bool := if d = 0 then decide (k < 4 ∨ (5 ≤ k ∧ k < 8)) else decide (k < 8)
def sO (d k : Nat) : Bool := if d = 0 then decide (k < 4) else false
theorem s3_copy {M : gMem} {a b : Nat} (h : a + 2 ≤ b ∨ b + 2 ≤ a) (ta : mT M a = 3) (tb : mT M b = 3) (ra : mR M a 3 = some (a + 1)) (rb : mR M b 3 = some (b + 1)) (ta1 : mT M (a + 1) = 20) (tb1 : mT M (b + 1) = 20) (la : mL M (a + 1) = 6) (lb : mL M (b + 1) = 6) : f_X3_copyFrom M a (some b) = some ((), cpS sG a b M) := sorry

theorem s1_copy {M : gMem} {a b : Nat} (h : a + 2 ≤ b ∨ b + 2 ≤ a) (ta : mT M a = 1) (tb : mT M b = 1) (ra : mR M a 10 = some (a + 1)) (rb : mR M b 10 = some (b + 1)) (ta1 : mT M (a + 1) = 20) (tb1 : mT M (b + 1) = 20) (la : mL M (a + 1) = 8) (lb : mL M (b + 1) = 8) (h9 : mI M b 9 = 0 ∨ mI M b 9 = 1) : f_X1_copyFrom M a (some b) = some ((), cpS sF a b M) := sorry

theorem s5_copy {M : gMem} {a b : Nat} (h : a + 2 ≤ b ∨ b + 2 ≤ a) (ta : mT M a = 5) (tb : mT M b = 5) (ra : mR M a 4 = some (a + 1)) (rb : mR M b 4 = some (b + 1)) (ta1 : mT M (a + 1) = 20) (tb1 : mT M (b + 1) = 20) (la : mL M (a + 1) = 8) (lb : mL M (b + 1) = 8) : f_X5_copyFrom M a (some b) = some ((), cpS sP a b M) := sorry

theorem s2_copy {M : gMem} {a b : Nat} (h : a + 2 ≤ b ∨ b + 2 ≤ a ∨ True) (hab : a ≠ b) (ta : mT M a = 2) (tb : mT M b = 2) : f_X2_copyFrom M a (some b) = some ((), wL a b [0, 1, 2, 3] M) := sorry
