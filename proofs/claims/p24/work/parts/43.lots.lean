theorem nI_mul (a b : Nat) : nI a * nI b = nI (a * b) := sorry

theorem nI_sub {a b : Nat} (h : b ≤ a) : nI a - nI b = nI (a - b) := sorry

theorem nI_div {a b : Nat} (ha : a < 2 ^ 31) (hb : b < 2 ^ 31) : nI a / nI b = nI (a / b) := sorry

theorem nI_rem {a b : Nat} (ha : a < 2 ^ 31) (hb : b < 2 ^ 31) : nI a - nI a / nI b * nI b = nI (a % b) := sorry

theorem ushr16 (y : Int32) : ∃ m, m < 65536 ∧ ushr y (nI 16) = nI m := sorry

/-- the place that a lot is drawn from, of k + 1 in the row -/
def drP (y : Int32) (k : Nat) : Nat := (ushr y (nI 16) - ushr y (nI 16) / nI k * nI k).toNatClampNeg
theorem drP_e {y : Int32} {k : Nat} (hk : k < 2 ^ 31) : ushr y (nI 16) - ushr y (nI 16) / nI k * nI k = nI (drP y k) := sorry

theorem drP_lt {y : Int32} {k : Nat} (h : 0 < k) (hk : k < 2 ^ 31) : drP y k < k := sorry

/-- the row from p on moves down by one, below k -/
def shD (f : Nat → Int32) (p k : Nat) : Nat → Int32 := fun i => if p ≤ i ∧ i + 1 < k then f (i + 1) else f i
def row0 (sg : Nat → Nat → Int32) (n : Nat) : Nat → Nat → Int32 := up1 sg 10 (fun k => if k < n then nI k else sg 10 k)
def drN (y : Int32) : Int32 := y * nI 69069 + nI 1
/-- j lots drawn of n: the ints and the number -/
def drS (sg : Nat → Nat → Int32) (n : Nat) (x : Int32) : Nat → (Nat → Nat → Int32) × Int32
  | 0 => (row0 sg n, x)
  | j + 1 => (up1 (up2 (drS sg n x j).1 9 j ((drS sg n x j).1 10 (drP (drN (drS sg n x j).2) (n - j)))) 10 (shD ((drS sg n x j).1 10) (drP (drN (drS sg n x j).2) (n - j)) (n - j)), drN (drS sg n x j).2)
theorem drS_o {sg : Nat → Nat → Int32} {n d : Nat} {x : Int32} (h : d ≠ 9 ∧ d ≠ 10) : ∀ j, (drS sg n x j).1 d = sg d := sorry

theorem up2_up1 (sg : Nat → Nat → Int32) (a k : Nat) (v : Int32) : up2 sg a k v = up1 sg a (up1 (sg a) k v) := sorry

theorem up1_up1 {α : Type} (f : Nat → α) (a : Nat) (v w : α) : up1 (up1 f a v) a w = up1 f a w := sorry

theorem s7_shift {M : gMem} {o p k : Nat} {y : Int32} {sg : Nat → Nat → Int32} (L : LC o M) (hk : k ≤ 8) (hp : p < k) : lp_X7_drawLots_71 (sC o sg M) o y (nI k) (nI p) = some (.inl (sC o (up1 sg 10 (shD (sg 10) p k)) M, y, nI (k - 1))) := sorry

theorem s7_drawLots {M : gMem} {o n : Nat} {sg : Nat → Nat → Int32} (L : LC o M) (h : sg 0 3 = nI n) (hn : n ≤ 8) : f_X7_drawLots (sC o sg M) o = some ((drS sg n (sg 0 1) n).2, sC o (drS sg n (sg 0 1) n).1 M) := sorry
