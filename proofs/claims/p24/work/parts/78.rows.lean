/-! ## Pure: the reader keeps to its world -/
theorem CI_at {r o k : Nat} {M0 M : gMem} (ho : o + 86 ≤ r) (C : CI r o M0 M) : CI r o M0 (at' r k M) := sorry

theorem CI_r {r o j : Nat} {v : Int32} {M0 M : gMem} (ho : o + 86 ≤ r) (C : CI r o M0 M) : CI r o M0 (wI M r j v) := sorry

theorem CI_nt {r p o k : Nat} {e : Int32} {M0 M : gMem} (ho : o + 86 ≤ r) (C : CI r o M0 M) : CI r o M0 (ntM r p e k M) := sorry

theorem CI_kw {r p o x k : Nat} {M0 M : gMem} (ho : o + 86 ≤ r) (C : CI r o M0 M) : CI r o M0 (kwM r p x k M) := sorry

theorem CI_nb {r p o k : Nat} {lo hi : Int32} {M0 M : gMem} (ho : o + 86 ≤ r) (C : CI r o M0 M) : CI r o M0 (nbM r p lo hi k M) := sorry

theorem CI_nw {r p o x k : Nat} {M0 M : gMem} (ho : o + 86 ≤ r) (hx : isX r x) (C : CI r o M0 M) : CI r o M0 (nwM r p x k M) := sorry

theorem CI_ad {Z : Nat → Nat} {r o c : Nat} {v : Int32} {M0 M : gMem} (ho : o + 86 ≤ r) (C : CI r o M0 M) : CI r o M0 (adM Z o c v M) := sorry

theorem CI_pa {r o i : Nat} {v : Int32} {M0 M : gMem} (ho : o + 86 ≤ r) (hi : i < 6) (C : CI r o M0 M) : CI r o M0 (paM (o + (74 + 2 * i)) v M) := sorry

theorem CI_cp {r o d e : Nat} {S : Nat → Nat → Bool} {M0 M : gMem} (ho : o + 86 ≤ r) (hd : 18 ≤ d) (hd2 : d + 1 < 86) (he : e = 16 ∨ d < 74) (h3 : 74 ≤ d → d % 2 = 0 ∧ mI M (o + 16) 3 = 0) (he2 : d < 74 → d + 1 < 74) (C : CI r o M0 M) : CI r o M0 (cpS S (o + d) (o + e) M) := sorry
