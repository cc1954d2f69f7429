/-! ## Pure: small methods of a State -/
theorem m5 (g : Nat) : (5 : Int32) * nI g = nI (5 * g) := sorry

theorem m8 (g : Nat) : (8 : Int32) * nI g = nI (8 * g) := sorry

theorem dn1 {n : Nat} (h : 0 < n) : nI n + (-1 : Int32) = nI (n - 1) := sorry

theorem sb1 {n : Nat} (h : 1 ≤ n) : nI n - (1 : Int32) = nI (n - 1) := sorry

/-- the least and the greatest of the first n, but for the numbers that a look begins with -/
def lsN (f : Nat → Int32) : Nat → Int32
  | 0 => nI 2147483647
  | n + 1 => imin (lsN f n) (f n)
def grtN (f : Nat → Int32) : Nat → Int32
  | 0 => nI 0
  | n + 1 => imax (grtN f n) (f n)
theorem imin_c (x y : Int32) : imin x y = imin y x := sorry

/-- lots are drawn -/
theorem va_cpy_in {f g : Nat → Int32} {i j n k : Nat} (h : j ≤ k ∧ k < j + n) : va_cpy f g i j n k = f (i + (k - j)) := sorry

theorem va_cpy_out {f g : Nat → Int32} {i j n k : Nat} (h : ¬ (j ≤ k ∧ k < j + n)) : va_cpy f g i j n k = g k := sorry

theorem sum5_N {f h : Nat → Int32} : ∀ n, (∀ k, k < n → f (k + 1) = h k) → sum5 f n = sumN h n := sorry
