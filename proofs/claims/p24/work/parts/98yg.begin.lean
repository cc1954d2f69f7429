/-! ## Pure: the reference begins anew -/
def bgR (j : Nat) : Nat := [2, 3, 5, 6, 8, 9, 10, 11, 12].getD j 0
theorem bgR_1 : ∀ j, j < 9 → 2 ≤ bgR j ∧ bgR j ≤ 12 ∧ bgR j ≠ 4 ∧ bgR j ≠ 7 ∧ lenS (bgR j) ≤ 64 := sorry

theorem bgR_2 : ∀ i, i < 9 → ∀ j, j < 9 → bgR i = bgR j → i = j := sorry

def bgA (a N : Nat) : Nat → gMem → gMem
  | 0, M => M
  | j + 1, M => wR (bgA a N j M) N j (some (a + bgR j))
theorem bgA_f {a N : Nat} {M : gMem} : ∀ j, mT (bgA a N j M) = mT M ∧ mL (bgA a N j M) = mL M ∧ mI (bgA a N j M) = mI M ∧ mJ (bgA a N j M) = mJ M ∧ mN (bgA a N j M) = mN M ∧ (∀ b, b ≠ N → mR (bgA a N j M) b = mR M b) ∧ ∀ i, i < j → mR (bgA a N j M) N i = some (a + bgR i) := sorry

theorem LS_e {m t a : Nat} {M X : gMem} (L : LSt m t a M) (h : ∀ b, b < mN M → mT X b = mT M b ∧ mL X b = mL M b ∧ mR X b = mR M b) (hm : m < mN M) (ha : a + 17 ≤ mN M) (ht : t + 17 ≤ mN M) : LSt m t a X := sorry

theorem nW_bC {n a g l : Nat} {st : Nat → Nat → Int32} {M : gMem} (h : a + n ≤ mN M) : nW (bC n a st M) g l = bC n a st (nW M g l) := sorry
