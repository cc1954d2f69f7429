/-! ## Pure: small methods of a State -/
theorem m5 (g : Nat) : (5 : Int32) * nI g = nI (5 * g) := nI_mul 5 g
theorem m8 (g : Nat) : (8 : Int32) * nI g = nI (8 * g) := nI_mul 8 g
theorem dn1 {n : Nat} (h : 0 < n) : nI n + (-1 : Int32) = nI (n - 1) := nI_dn h
theorem sb1 {n : Nat} (h : 1 ≤ n) : nI n - (1 : Int32) = nI (n - 1) := nI_sub (b := 1) h
/-- the least and the greatest of the first n, but for the numbers that a look begins with -/
def lsN (f : Nat → Int32) : Nat → Int32
  | 0 => nI 2147483647
  | n + 1 => imin (lsN f n) (f n)
def grtN (f : Nat → Int32) : Nat → Int32
  | 0 => nI 0
  | n + 1 => imax (grtN f n) (f n)
theorem imin_c (x y : Int32) : imin x y = imin y x := by
  unfold imin
  by_cases h1 : y < x
  · by_cases h2 : x < y
    · exact absurd h2 (Int32.lt_asymm h1)
    · rw [if_pos h1, if_neg h2]
  · by_cases h2 : x < y
    · rw [if_neg h1, if_pos h2]
    · rw [if_neg h1, if_neg h2]
      exact Int32.le_antisymm (Int32.not_lt.mp h1) (Int32.not_lt.mp h2)
/-- lots are drawn -/
theorem va_cpy_in {f g : Nat → Int32} {i j n k : Nat} (h : j ≤ k ∧ k < j + n) : va_cpy f g i j n k = f (i + (k - j)) := by
  unfold va_cpy; rw [if_pos h]
theorem va_cpy_out {f g : Nat → Int32} {i j n k : Nat} (h : ¬ (j ≤ k ∧ k < j + n)) : va_cpy f g i j n k = g k := by
  unfold va_cpy; rw [if_neg h]
theorem sum5_N {f h : Nat → Int32} : ∀ n, (∀ k, k < n → f (k + 1) = h k) → sum5 f n = sumN h n
  | 0, _ => rfl
  | n + 1, e => by rw [sum5, sumN, sum5_N n (fun k hk => e k (by omega)), e n (by omega)]
