/-! the counts stay -/
theorem kw_o {r p x k a j : Nat} {M : gMem} (h : a ≠ r) : mI (kwM r p x k M) a j = mI M a j := sorry

theorem nb_o {r p k a j : Nat} {lo hi : Int32} {M : gMem} (h : a ≠ r) : mI (nbM r p lo hi k M) a j = mI M a j := sorry

theorem ad_o {Z : Nat → Nat} {o c a j : Nat} {v : Int32} {M : gMem} (h : a ≠ o + 5 ∧ a ≠ o + 7) : mI (adM Z o c v M) a j = mI M a j := sorry

theorem pa_o {a v b j : Nat} {w : Int32} {M : gMem} (h : b ≠ a ∧ b ≠ a + 1) : mI (paM a w M) b j = mI M b j := sorry

theorem st_cnt {Z : Nat → Nat} {r p o c i f : Nat} {M : gMem} (ho : o + 86 ≤ r) (hc : c < 51 ∨ 54 < c) : mI (stp1 Z r p o c i M) o f = mI M o f := sorry

theorem rn_cnt {Z : Nat → Nat} {r p o f : Nat} (ho : o + 86 ≤ r) : ∀ (a : List (Nat × Nat)) (M : gMem), (∀ y ∈ a, y.1 < 51 ∨ 54 < y.1) → mI (rnE Z r p o a M) o f = mI M o f := sorry
