/-! ## Pure: where no error is noted, nothing of it was touched -/
def kpZ (r : Nat) (M M1 : gMem) : Prop := mI M1 r 7 = 0 → mI M r 7 = 0 ∧ mI M1 r 0 = mI M r 0
theorem kz_r {r : Nat} {M : gMem} : kpZ r M M := sorry

theorem kz_t {r : Nat} {A B C : gMem} (h1 : kpZ r A B) (h2 : kpZ r B C) : kpZ r A C := sorry

theorem kz_w {r a k : Nat} {v : Int32} {M : gMem} (h : a ≠ r ∨ (k ≠ 7 ∧ k ≠ 0)) : kpZ r M (wI M a k v) := sorry

theorem kz_n {r p i : Nat} {e : Int32} {M : gMem} (he : e ≠ 0) : kpZ r M (ntM r p e i M) := sorry

theorem kz_k {r p x i : Nat} {M : gMem} : kpZ r M (kwM r p x i M) := sorry

theorem kz_b {r p i : Nat} {lo hi : Int32} {M : gMem} : kpZ r M (nbM r p lo hi i M) := sorry

theorem kz_nw {r p x i : Nat} {M : gMem} (hx : isX r x) : kpZ r M (nwM r p x i M) := sorry

theorem kz_ad {Z : Nat → Nat} {r o c : Nat} {v : Int32} {M : gMem} (ho : o + 86 ≤ r) : kpZ r M (adM Z o c v M) := sorry

theorem kz_cp {S : Nat → Nat → Bool} {r a b : Nat} {M : gMem} (h : a + 1 < r) : kpZ r M (cpS S a b M) := sorry

theorem kz_pa {r a : Nat} {v : Int32} {M : gMem} (h : a + 1 < r) : kpZ r M (paM a v M) := sorry

theorem kz_s {Z : Nat → Nat} {r p o c i : Nat} {M : gMem} (ho : o + 86 ≤ r) (n2 : lsn M o 2 < 8) (n3 : lsn M o 3 < 8) (n4 : lsn M o 4 < 24) (n5 : lsn M o 5 < 6) : kpZ r M (stp1 Z r p o c i M) := sorry

/-- the whole row of events -/
theorem kz_rn {Z g ps vs : Nat → Nat} {K r p o : Nat} {M0 : gMem} (W : CWd Z g ps vs K r p o M0) : ∀ (a : List (Nat × Nat)) (M : gMem), CI r o M0 M → kpZ r M (rnE Z r p o a M) := sorry
